def xad (g : xG) (a : Nat) : Nat := if a < 64 then g.2.2.2.2.2.1 a else g.2.1.size + (a - 64)
def xcv (g : xG) (v : Value) : Value := match v with
  | .ref a => .ref (xad g a)
  | w => w
theorem xN_on {w : Cond} (h : w ∈ lw_n) : w.onTables = true := by
  have h2 := (List.mem_filter.mp h).2
  cases w <;> first | rfl | (simp [xisN] at h2)
theorem xN_warm {w : Cond} {s U : State} (h : w ∈ lw_n) (hW : s.WarmedH U.vm) (hw : va_Nw w s) : va_Nw w U := by
  have h2 := (List.mem_filter.mp h).2
  cases w with
  | fieldLinkNest => exact va_Nw.warmF hW hw
  | methodLinkNest => exact va_Nw.warmM hW hw
  | _ => simp [xisN] at h2
theorem xcv_cat {g : xG} {v : Value} : (xcv g v).category = v.category := by cases v <;> rfl
def xfv (g : xG) (σ : xS) (a ci k : Nat) : Value := if xR ci k = true then va_rf ((σ.2.2.1 a k).map (xad g)) else .int (σ.2.2.2 a k)
def xcell (g : xG) (σ : xS) (a : Nat) (H : Heap) : Prop :=
  ((σ.2.1 a).1 < 12 → ∃ r : vw_C, vwCl[(σ.2.1 a).1]? = some r ∧ t_OB (xad g a) (g.2.2.1 (σ.2.1 a).1) r.2.2 (g.2.2.2.1 (σ.2.1 a).1) H (xfv g σ a (σ.2.1 a).1)) ∧
  ((σ.2.1 a).1 = 12 ∨ (σ.2.1 a).1 = 13 → H[xad g a]? = some (arrV (g.2.2.2.2.1 (σ.2.1 a).1) (σ.2.1 a).2 (fun k => .int (σ.2.2.2 a k)))) ∧
  ((σ.2.1 a).1 = 14 → H[xad g a]? = some (arrV (g.2.2.2.2.1 14) (σ.2.1 a).2 (fun k => va_rf ((σ.2.2.1 a k).map (xad g)))))
def xH (g : xG) (σ : xS) (H : Heap) : Prop := H.size + 64 = g.2.1.size + σ.1 ∧ (∀ q : Nat, q < g.2.1.size → H[q]? = g.2.1[q]?) ∧ ∀ a : Nat, (σ.2.1 a).1 < 15 → 64 ≤ a ∧ a < σ.1 ∧ xcell g σ a H
theorem xad_own {g : xG} {a : Nat} (h : 64 ≤ a) : xad g a = g.2.1.size + (a - 64) := by unfold xad; rw [if_neg (by omega)]
theorem xad_ge {g : xG} {a : Nat} (h : 64 ≤ a) : g.2.1.size ≤ xad g a := by rw [xad_own h]; omega
theorem xad_ne {g : xG} {a b : Nat} (ha : 64 ≤ a) (hb : 64 ≤ b) (h : a ≠ b) : xad g a ≠ xad g b := by rw [xad_own ha, xad_own hb]; omega
theorem xcell_kept {g : xG} {σ σ' : xS} {a : Nat} {H H' : Heap} (h : xcell g σ a H) (h1 : σ'.2.1 a = σ.2.1 a) (h2 : σ'.2.2.1 a = σ.2.2.1 a) (h3 : σ'.2.2.2 a = σ.2.2.2 a) (hq : H'[xad g a]? = H[xad g a]?) : xcell g σ' a H' := by
  unfold xcell at h ⊢
  rw [h1]
  refine ⟨fun z => ?_, fun z => ?_, fun z => ?_⟩
  · obtain ⟨r, a1, a2⟩ := h.1 z
    refine ⟨r, a1, (a2.kept hq).to (fun k _ => ?_)⟩
    unfold xfv
    rw [h2, h3]
  · rw [hq, h3]; exact h.2.1 z
  · rw [hq, h2]; exact h.2.2 z
/-- what the static arrays hold -/
def xKA : List Int32 := [-1, 0, 0, 0, 1, 2, 3]
def xBO : List Int32 := [1, 2, 3, 11, 0, 0, 0, 21, 0, 0, 0, 31, 0, 0, 41, 51, 0, 0, 0, 61, 0]
/-- the literals' bytes -/
def xTx : List (List Int32) := [[116, 111, 112], [99, 104, 101, 97, 116], [100, 101, 97, 114], [109, 101, 97, 110], [99, 107, 118, 98, 100, 112], [60, 61, 62], [116, 111, 112, 32], [99, 104, 101, 97, 116, 32], [100, 101, 97, 114, 32], [109, 101, 97, 110, 32]]
def xTl : List Nat := [3, 5, 4, 4, 6, 3, 4, 6, 5, 5]
/-- what was there before the law began: static arrays 0 and 1, the script 2, a formatter 3 (or null), literal i at 8 + i, its bytes at 24 + i -/
def xE (g : xG) (s : State) : Prop :=
  va_K (g.2.2.1, g.2.2.2.1) vwCl [(g.2.2.2.2.1 12, .int), (g.2.2.2.2.1 13, .boolean), (g.2.2.2.2.1 14, .object "CoinLand$Clause")] s ∧
  va_Z "CoinLand" "KIND_ABOVE" "[I" (.ref (g.2.2.2.2.2.1 0)) (fun _ => False) s g.2.1 ∧ va_T .int (g.2.2.2.2.2.1 0) 7 (fun j => .int (xKA.getD j 0)) (fun _ => False) s g.2.1 ∧
  va_Z "CoinLand" "BODIES" "[I" (.ref (g.2.2.2.2.2.1 1)) (fun _ => False) s g.2.1 ∧ va_T .int (g.2.2.2.2.2.1 1) 21 (fun j => .int (xBO.getD j 0)) (fun _ => False) s g.2.1 ∧
  va_T .int (g.2.2.2.2.2.1 2) g.2.2.2.2.2.2.1 (fun j => .int (g.2.2.2.2.2.2.2 j)) (fun _ => False) s g.2.1 ∧
  va_Z "java/lang/String" "COMPACT_STRINGS" "Z" (.int 1) (fun _ => False) s g.2.1 ∧
  (vk_S 10 xTl xTx (fun i => g.2.2.2.2.2.1 (8 + i)) (fun i => g.2.2.2.2.2.1 (24 + i)) (fun _ => False) s g.2.1 ∧ (va_Z "jdk/internal/util/Preconditions" "SIOOBE_FORMATTER" "Ljava/util/function/BiFunction;" .null (fun _ => False) s g.2.1 ∨ va_Z "jdk/internal/util/Preconditions" "SIOOBE_FORMATTER" "Ljava/util/function/BiFunction;" (.ref (g.2.2.2.2.2.1 3)) (fun _ => False) s g.2.1)) ∧
  (vk_R "CoinLand$Reader" 98 "top" (g.2.2.2.2.2.1 8) s ∧ vk_R "CoinLand$Reader" 104 "cheat" (g.2.2.2.2.2.1 9) s ∧ vk_R "CoinLand$Reader" 106 "dear" (g.2.2.2.2.2.1 10) s ∧ vk_R "CoinLand$Reader" 108 "mean" (g.2.2.2.2.2.1 11) s ∧ vk_R "CoinLand$Reader" 132 "ckvbdp" (g.2.2.2.2.2.1 12) s ∧ vk_R "CoinLand$Reader" 138 "<=>" (g.2.2.2.2.2.1 13) s ∧
   vk_R "CoinLandModel" 111 "ckvbdp" (g.2.2.2.2.2.1 12) s ∧ vk_R "CoinLandModel" 117 "<=>" (g.2.2.2.2.2.1 13) s ∧ vk_R "CoinLandModel" 129 "top " (g.2.2.2.2.2.1 14) s ∧ vk_R "CoinLandModel" 135 "cheat " (g.2.2.2.2.2.1 15) s ∧ vk_R "CoinLandModel" 137 "dear " (g.2.2.2.2.2.1 16) s ∧ vk_R "CoinLandModel" 142 "mean " (g.2.2.2.2.2.1 17) s) ∧ va_AO "CoinLand$Clause" s ∧ ∀ w ∈ lw_n, va_Nw w s
/-- locals by place: what is known -/
def xlk : List (Option Value) → Nat → Option Value
  | [], _ => none
  | v :: _, 0 => v
  | _ :: l, i + 1 => xlk l i
def xset : List (Option Value) → Nat → Option Value → List (Option Value)
  | [], _, _ => []
  | _ :: l, 0, w => w :: l
  | v :: l, i + 1, w => v :: xset l i w
/-- a value of two places ends where one is put upon its second -/
def xwide : Option Value → Option Value
  | some (.long _) => none
  | some (.double _) => none
  | v => v
def xclr : List (Option Value) → Nat → List (Option Value)
  | l, 0 => l
  | [], _ + 1 => []
  | v :: l, 1 => xwide v :: l
  | v :: l, i + 2 => v :: xclr l (i + 1)
def xst (l : List (Option Value)) (i : Nat) (v : Value) : List (Option Value) := xset (xclr l i) i (some v)
def xst2 (l : List (Option Value)) (i : Nat) (v : Value) : List (Option Value) := xset (xset (xclr l i) i (some v)) (i + 1) none
def xla (g : xG) : Nat → List (Option Value) → List (Nat × Value)
  | _, [] => []
  | i, none :: l => xla g (i + 1) l
  | i, some v :: l => (i, xcv g v) :: xla g (i + 1) l
theorem xlk_set : ∀ (l : List (Option Value)) (i j : Nat) (w : Option Value), xlk (xset l i w) j = if j = i ∧ i < l.length then w else xlk l j
  | [], i, j, w => by simp [xset, xlk]
  | v :: l, 0, j, w => by cases j <;> simp [xset, xlk]
  | v :: l, i + 1, 0, w => by simp [xset, xlk]
  | v :: l, i + 1, j + 1, w => by simp only [xset, xlk, List.length_cons]; rw [xlk_set l i j w]; simp
theorem xlk_clr : ∀ (l : List (Option Value)) (i j : Nat), xlk (xclr l i) j = if j + 1 = i then xwide (xlk l j) else xlk l j
  | l, 0, j => by simp [xclr]
  | [], i + 1, j => by simp only [xclr, xlk, xwide, ite_self]
  | v :: l, 1, 0 => by simp [xclr, xlk]
  | v :: l, 1, j + 1 => by simp [xclr, xlk]
  | v :: l, i + 2, 0 => by simp [xclr, xlk]
  | v :: l, i + 2, j + 1 => by simp only [xclr, xlk]; rw [xlk_clr l (i + 1) j]; simp
theorem xla_mem {g : xG} {q : Nat × Value} : ∀ (l : List (Option Value)) (i : Nat), q ∈ xla g i l ↔ ∃ (j : Nat) (v : Value), xlk l j = some v ∧ q = (i + j, xcv g v)
  | [], i => by simp [xla, xlk]
  | none :: l, i => by
    rw [xla, xla_mem l (i + 1)]
    constructor
    · rintro ⟨j, v, h1, h2⟩
      exact ⟨j + 1, v, h1, by rw [h2]; congr 1; omega⟩
    · rintro ⟨j, v, h1, h2⟩
      cases j with
      | zero => simp [xlk] at h1
      | succ j => exact ⟨j, v, h1, by rw [h2]; congr 1; omega⟩
  | some w :: l, i => by
    rw [xla, List.mem_cons, xla_mem l (i + 1)]
    constructor
    · rintro (h | ⟨j, v, h1, h2⟩)
      · exact ⟨0, w, rfl, h⟩
      · exact ⟨j + 1, v, h1, by rw [h2]; congr 1; omega⟩
    · rintro ⟨j, v, h1, h2⟩
      cases j with
      | zero => left; simp [xlk] at h1; subst h1; exact h2
      | succ j => right; exact ⟨j, v, h1, by rw [h2]; congr 1; omega⟩
theorem xla_at {g : xG} {ls : List (Option Value)} {lsA : Array Slot} {nL i : Nat} {v : Value} (h : lv_has lsA nL (xla g 0 ls)) (hk : xlk ls i = some v) : lsA[i]? = some (.val (xcv g v)) :=
  h.2.2 (i, xcv g v) ((xla_mem ls 0).mpr ⟨i, v, hk, by rw [Nat.zero_add]⟩)
theorem xla_ix {g : xG} {ls : List (Option Value)} {i : Nat} {x : Int32} (hk : xlk ls i = some (.int x)) : ∃ q : Nat, (xla g 0 ls)[q]? = some (i, Value.int x) :=
  List.getElem?_of_mem ((xla_mem ls 0).mpr ⟨i, Value.int x, hk, by rw [Nat.zero_add]; rfl⟩)
theorem xwide_some {v : Option Value} {w : Value} (h : xwide v = some w) : v = some w ∧ w.category ≠ 2 := by
  cases v with
  | none => cases h
  | some u => cases u <;> simp [xwide] at h <;> subst h <;> simp [Value.category]
theorem xla_st1 {g : xG} {ls : List (Option Value)} {ls2 : Array Slot} {nL i : Nat} {v : Value} (h : lv_has ls2 nL ((i, xcv g v) :: (xla g 0 ls).filter (fun q => !(q.1 == i) && !(q.1 + 1 == i && q.2.category == 2)))) : lv_has ls2 nL (xla g 0 (xst ls i v)) := by
  refine ⟨h.1, h.2.1, fun q hq => h.2.2 q ?_⟩
  obtain ⟨j, w, h1, rfl⟩ := (xla_mem _ 0).mp hq
  rw [Nat.zero_add]
  unfold xst at h1
  rw [xlk_set] at h1
  by_cases hj : j = i ∧ i < (xclr ls i).length
  · rw [if_pos hj] at h1
    cases h1
    rw [hj.1]
    exact List.mem_cons_self
  · rw [if_neg hj, xlk_clr] at h1
    by_cases hji : j + 1 = i
    · rw [if_pos hji] at h1
      obtain ⟨h2, h3⟩ := xwide_some h1
      refine List.mem_cons_of_mem _ (List.mem_filter.mpr ⟨(xla_mem ls 0).mpr ⟨j, w, h2, by rw [Nat.zero_add]⟩, ?_⟩)
      have e1 : (j == i) = false := beq_eq_false_iff_ne.mpr (by omega)
      have e2 : ((xcv g w).category == 2) = false := beq_eq_false_iff_ne.mpr (by rw [xcv_cat]; exact h3)
      simp only [e1, e2, Bool.and_false, Bool.not_false, Bool.and_self]
    · rw [if_neg hji] at h1
      by_cases hjj : j = i
      · exfalso
        apply hj
        refine ⟨hjj, ?_⟩
        have hlen : ∀ (l : List (Option Value)) (a : Nat) (b : Value), xlk l a = some b → a < l.length := by
          intro l
          induction l with
          | nil => intro a b z; simp [xlk] at z
          | cons c l ih => intro a b z; cases a with
            | zero => simp
            | succ a => have := ih a b z; simp only [List.length_cons]; omega
        have hcl : ∀ (l : List (Option Value)) (a : Nat), (xclr l a).length = l.length := by
          intro l
          induction l with
          | nil => intro a; cases a <;> rfl
          | cons c l ih => intro a; match a with
            | 0 => rfl
            | 1 => rfl
            | a + 2 => simp only [xclr, List.length_cons]; rw [ih (a + 1)]
        rw [hcl]
        have := hlen ls j w h1
        omega
      · refine List.mem_cons_of_mem _ (List.mem_filter.mpr ⟨(xla_mem ls 0).mpr ⟨j, w, h1, by rw [Nat.zero_add]⟩, ?_⟩)
        have e1 : (j == i) = false := beq_eq_false_iff_ne.mpr hjj
        have e2 : (j + 1 == i) = false := beq_eq_false_iff_ne.mpr hji
        simp only [e1, e2, Bool.false_and, Bool.not_false, Bool.and_self]
theorem xlk_len : ∀ (l : List (Option Value)) (a : Nat) (b : Value), xlk l a = some b → a < l.length := by
  intro l
  induction l with
  | nil => intro a b z; simp [xlk] at z
  | cons c l ih => intro a b z; cases a with
    | zero => simp
    | succ a => have := ih a b z; simp only [List.length_cons]; omega
theorem xclr_len : ∀ (l : List (Option Value)) (a : Nat), (xclr l a).length = l.length := by
  intro l
  induction l with
  | nil => intro a; cases a <;> rfl
  | cons c l ih => intro a; match a with
    | 0 => rfl
    | 1 => rfl
    | a + 2 => simp only [xclr, List.length_cons]; rw [ih (a + 1)]
theorem xset_len : ∀ (l : List (Option Value)) (a : Nat) (w : Option Value), (xset l a w).length = l.length := by
  intro l
  induction l with
  | nil => intro a w; rfl
  | cons c l ih => intro a w; cases a with
    | zero => rfl
    | succ a => simp only [xset, List.length_cons]; rw [ih a w]
theorem xla_st2 {g : xG} {ls : List (Option Value)} {ls2 : Array Slot} {nL i : Nat} {v : Value} (h : lv_has ls2 nL ((i, xcv g v) :: (xla g 0 ls).filter (fun q => !(q.1 == i) && (!(q.1 == i + 1) && !(q.1 + 1 == i && q.2.category == 2))))) : lv_has ls2 nL (xla g 0 (xst2 ls i v)) := by
  refine ⟨h.1, h.2.1, fun q hq => h.2.2 q ?_⟩
  obtain ⟨j, w, h1, rfl⟩ := (xla_mem _ 0).mp hq
  rw [Nat.zero_add]
  unfold xst2 at h1
  rw [xlk_set] at h1
  by_cases hk : j = i + 1 ∧ i + 1 < (xset (xclr ls i) i (some v)).length
  · rw [if_pos hk] at h1; cases h1
  · rw [if_neg hk, xlk_set] at h1
    by_cases hj : j = i ∧ i < (xclr ls i).length
    · rw [if_pos hj] at h1
      cases h1
      rw [hj.1]
      exact List.mem_cons_self
    · rw [if_neg hj, xlk_clr] at h1
      rw [xset_len, xclr_len] at hk
      rw [xclr_len] at hj
      by_cases hji : j + 1 = i
      · rw [if_pos hji] at h1
        obtain ⟨h2, h3⟩ := xwide_some h1
        refine List.mem_cons_of_mem _ (List.mem_filter.mpr ⟨(xla_mem ls 0).mpr ⟨j, w, h2, by rw [Nat.zero_add]⟩, ?_⟩)
        have e1 : (j == i) = false := beq_eq_false_iff_ne.mpr (by omega)
        have e3 : (j == i + 1) = false := beq_eq_false_iff_ne.mpr (by omega)
        have e2 : ((xcv g w).category == 2) = false := beq_eq_false_iff_ne.mpr (by rw [xcv_cat]; exact h3)
        simp only [e1, e2, e3, Bool.and_false, Bool.not_false, Bool.and_self]
      · rw [if_neg hji] at h1
        have hl := xlk_len ls j w h1
        refine List.mem_cons_of_mem _ (List.mem_filter.mpr ⟨(xla_mem ls 0).mpr ⟨j, w, h1, by rw [Nat.zero_add]⟩, ?_⟩)
        have e1 : (j == i) = false := beq_eq_false_iff_ne.mpr (fun z => hj ⟨z, by omega⟩)
        have e3 : (j == i + 1) = false := beq_eq_false_iff_ne.mpr (fun z => hk ⟨z, by omega⟩)
        have e2 : (j + 1 == i) = false := beq_eq_false_iff_ne.mpr hji
        simp only [e1, e2, e3, Bool.false_and, Bool.not_false, Bool.and_self]
/-- a method's frame: what holds of it from its start on -/
def xFr (g : xG) (y : xY) (d : Nat) (p : Program) (R : Room) (s : State) (m : MethodId) (args : Array Value) (meth : Method) (c : Code) : Prop :=
  p.tables.exec = Jvm.exec ∧ c.code = y.2.1 ∧ c.maxLocals = y.2.2.1 ∧ s.vm.findClass y.1.cls = some m.cls ∧ (∀ w ∈ lw_g, w.before args s = true) ∧ meth.sig.returnType = y.2.2.2 ∧ meth.locks = false ∧ meth.name = y.1.name ∧ xE g s ∧ d ≤ R.frames ∧ 64 * d ≤ R.locals
/-- which instruction gives an answer back -/
def xRi (ret : Option FieldType) (r : Option Value) (i : Instr) : Prop := match r with
  | none => i = .return_ ∧ ret = none
  | some (.int v) => i = .ireturn ∧ ∃ ty, ret = some ty ∧ narrow ty (.int v) = .int v
  | some (.long _) => i = .lreturn ∧ ret = some .long
  | some (.ref _) => i = .areturn ∧ ∃ ty, ret = some ty ∧ ((∃ n, ty = .object n) ∨ ∃ t, ty = .array t)
  | some .null => i = .areturn ∧ ∃ ty, ret = some ty ∧ ((∃ n, ty = .object n) ∨ ∃ t, ty = .array t)
  | _ => False
/-- the judgement: from this abstract state on the method comes to its end, with Q of the answer and the state; k cells of n slots may come yet, calls go d deep -/
def xX (g : xG) (y : xY) (d k n : Nat) (Q : Option Value → xS → Prop) (pc : Nat) (ls : List (Option Value)) (st : List Value) (σ : xS) : Prop :=
  ∀ (p : Program) (R : Room) (e : Env) (s : State) (m : MethodId) (args : Array Value) (below : List Frame) (meth : Method) (c : Code), xFr g y d p R s m args meth c → ∀ (Qf : State → Prop),
    (∀ (r : Option Value) (σ' : xS) (H : Heap) (locs : List Loc) (cells slots pc : Nat) (lsA : Array Slot) (i : Instr), Q r σ' → xH g σ' H → (∀ q ∈ locs, g.2.1.size ≤ q.base) → cells ≤ R.cells → slots ≤ R.slots → xRi y.2.2.2 r i → decode y.2.1 pc = .ok (i, 1) → W p g.1 e R s m args below meth c H locs cells slots Qf (F0 m pc lsA (r.map (xcv g)).toList)) →
    ∀ (lsA : Array Slot) (H : Heap) (locs : List Loc) (cells slots : Nat), lv_has lsA y.2.2.1 (xla g 0 ls) → xH g σ H → (∀ q ∈ locs, g.2.1.size ≤ q.base) → cells + k ≤ R.cells → slots + n ≤ R.slots → W p g.1 e R s m args below meth c H locs cells slots Qf (F0 m pc lsA (st.map (xcv g)))
theorem x_iconst {g : xG} {y : xY} {d k n : Nat} {Q : Option Value → xS → Prop} {pc : Nat} {ls : List (Option Value)} {st : List Value} {σ : xS} {c : Int} {v : Int32} (hd : decode y.2.1 pc = .ok (.iconst c, 1)) (hv : Int32.ofInt c = v) (kk : xX g y d k n Q (pc + 1) ls (.int v :: st) σ) : xX g y d k n Q pc ls (st) σ := by
  intro p R e s m args below meth c F Qf hr lsA H locs cells slots hl hH hlo hc hs
  have hx := F.1; have hb := F.2.1
  exact lv_iconst hx hb hd hv (kk p R e s m args below meth c F Qf hr lsA H locs cells slots hl hH hlo hc hs)
theorem x_bipush {g : xG} {y : xY} {d k n : Nat} {Q : Option Value → xS → Prop} {pc : Nat} {ls : List (Option Value)} {st : List Value} {σ : xS} {c : Int} {v : Int32} (hd : decode y.2.1 pc = .ok (.bipush c, 2)) (hv : (Int8.ofInt c).toInt32 = v) (kk : xX g y d k n Q (pc + 2) ls (.int v :: st) σ) : xX g y d k n Q pc ls (st) σ := by
  intro p R e s m args below meth c F Qf hr lsA H locs cells slots hl hH hlo hc hs
  have hx := F.1; have hb := F.2.1
  exact lv_bipush hx hb hd hv (kk p R e s m args below meth c F Qf hr lsA H locs cells slots hl hH hlo hc hs)
theorem x_sipush {g : xG} {y : xY} {d k n : Nat} {Q : Option Value → xS → Prop} {pc : Nat} {ls : List (Option Value)} {st : List Value} {σ : xS} {c : Int} {v : Int32} (hd : decode y.2.1 pc = .ok (.sipush c, 3)) (hv : (Int16.ofInt c).toInt32 = v) (kk : xX g y d k n Q (pc + 3) ls (.int v :: st) σ) : xX g y d k n Q pc ls (st) σ := by
  intro p R e s m args below meth c F Qf hr lsA H locs cells slots hl hH hlo hc hs
  have hx := F.1; have hb := F.2.1
  exact lv_sipush hx hb hd hv (kk p R e s m args below meth c F Qf hr lsA H locs cells slots hl hH hlo hc hs)
theorem x_lconst {g : xG} {y : xY} {d k n : Nat} {Q : Option Value → xS → Prop} {pc : Nat} {ls : List (Option Value)} {st : List Value} {σ : xS} {c : Fin 2} {v : Int64} (hd : decode y.2.1 pc = .ok (.lconst c, 1)) (hv : Int64.ofNat (c : Nat) = v) (kk : xX g y d k n Q (pc + 1) ls (.long v :: st) σ) : xX g y d k n Q pc ls (st) σ := by
  intro p R e s m args below meth c F Qf hr lsA H locs cells slots hl hH hlo hc hs
  have hx := F.1; have hb := F.2.1
  exact lv_lconst hx hb hd hv (kk p R e s m args below meth c F Qf hr lsA H locs cells slots hl hH hlo hc hs)
theorem x_aconst_null {g : xG} {y : xY} {d k n : Nat} {Q : Option Value → xS → Prop} {pc : Nat} {ls : List (Option Value)} {st : List Value} {σ : xS}  (hd : decode y.2.1 pc = .ok (.aconst_null, 1)) (kk : xX g y d k n Q (pc + 1) ls (.null :: st) σ) : xX g y d k n Q pc ls (st) σ := by
  intro p R e s m args below meth c F Qf hr lsA H locs cells slots hl hH hlo hc hs
  have hx := F.1; have hb := F.2.1
  exact lv_null hx hb hd (kk p R e s m args below meth c F Qf hr lsA H locs cells slots hl hH hlo hc hs)
theorem x_iload_n {g : xG} {y : xY} {d k n : Nat} {Q : Option Value → xS → Prop} {pc : Nat} {ls : List (Option Value)} {st : List Value} {σ : xS} {c : Fin 4} {x : Int32} (hd : decode y.2.1 pc = .ok (.iload_n c, 1)) (hk : xlk ls (c : Nat) = some (.int x)) (kk : xX g y d k n Q (pc + 1) ls (.int x :: st) σ) : xX g y d k n Q pc ls (st) σ := by
  intro p R e s m args below meth c F Qf hr lsA H locs cells slots hl hH hlo hc hs
  have hx := F.1; have hb := F.2.1
  exact lv_iload_n hx hb hd rfl (xla_at hl hk) (kk p R e s m args below meth c F Qf hr lsA H locs cells slots hl hH hlo hc hs)
theorem x_iload {g : xG} {y : xY} {d k n : Nat} {Q : Option Value → xS → Prop} {pc : Nat} {ls : List (Option Value)} {st : List Value} {σ : xS} {i : Nat} {x : Int32} (hd : decode y.2.1 pc = .ok (.iload i, 2)) (hk : xlk ls i = some (.int x)) (kk : xX g y d k n Q (pc + 2) ls (.int x :: st) σ) : xX g y d k n Q pc ls (st) σ := by
  intro p R e s m args below meth c F Qf hr lsA H locs cells slots hl hH hlo hc hs
  have hx := F.1; have hb := F.2.1
  exact lv_iload hx hb hd (xla_at hl hk) (kk p R e s m args below meth c F Qf hr lsA H locs cells slots hl hH hlo hc hs)
theorem x_lload_n {g : xG} {y : xY} {d k n : Nat} {Q : Option Value → xS → Prop} {pc : Nat} {ls : List (Option Value)} {st : List Value} {σ : xS} {c : Fin 4} {x : Int64} (hd : decode y.2.1 pc = .ok (.lload_n c, 1)) (hk : xlk ls (c : Nat) = some (.long x)) (kk : xX g y d k n Q (pc + 1) ls (.long x :: st) σ) : xX g y d k n Q pc ls (st) σ := by
  intro p R e s m args below meth c F Qf hr lsA H locs cells slots hl hH hlo hc hs
  have hx := F.1; have hb := F.2.1
  exact lv_lload_n hx hb hd rfl (xla_at hl hk) (kk p R e s m args below meth c F Qf hr lsA H locs cells slots hl hH hlo hc hs)
theorem x_lload {g : xG} {y : xY} {d k n : Nat} {Q : Option Value → xS → Prop} {pc : Nat} {ls : List (Option Value)} {st : List Value} {σ : xS} {i : Nat} {x : Int64} (hd : decode y.2.1 pc = .ok (.lload i, 2)) (hk : xlk ls i = some (.long x)) (kk : xX g y d k n Q (pc + 2) ls (.long x :: st) σ) : xX g y d k n Q pc ls (st) σ := by
  intro p R e s m args below meth c F Qf hr lsA H locs cells slots hl hH hlo hc hs
  have hx := F.1; have hb := F.2.1
  exact lv_lload hx hb hd (xla_at hl hk) (kk p R e s m args below meth c F Qf hr lsA H locs cells slots hl hH hlo hc hs)
theorem x_aload_n {g : xG} {y : xY} {d k n : Nat} {Q : Option Value → xS → Prop} {pc : Nat} {ls : List (Option Value)} {st : List Value} {σ : xS} {c : Fin 4} {x : Nat} (hd : decode y.2.1 pc = .ok (.aload_n c, 1)) (hk : xlk ls (c : Nat) = some (.ref x)) (kk : xX g y d k n Q (pc + 1) ls (.ref x :: st) σ) : xX g y d k n Q pc ls (st) σ := by
  intro p R e s m args below meth c F Qf hr lsA H locs cells slots hl hH hlo hc hs
  have hx := F.1; have hb := F.2.1
  exact lv_aload_n hx hb hd rfl (xla_at hl hk) (kk p R e s m args below meth c F Qf hr lsA H locs cells slots hl hH hlo hc hs)
theorem x_aload {g : xG} {y : xY} {d k n : Nat} {Q : Option Value → xS → Prop} {pc : Nat} {ls : List (Option Value)} {st : List Value} {σ : xS} {i : Nat} {x : Nat} (hd : decode y.2.1 pc = .ok (.aload i, 2)) (hk : xlk ls i = some (.ref x)) (kk : xX g y d k n Q (pc + 2) ls (.ref x :: st) σ) : xX g y d k n Q pc ls (st) σ := by
  intro p R e s m args below meth c F Qf hr lsA H locs cells slots hl hH hlo hc hs
  have hx := F.1; have hb := F.2.1
  exact lv_aload hx hb hd (xla_at hl hk) (kk p R e s m args below meth c F Qf hr lsA H locs cells slots hl hH hlo hc hs)
theorem x_aload_nN {g : xG} {y : xY} {d k n : Nat} {Q : Option Value → xS → Prop} {pc : Nat} {ls : List (Option Value)} {st : List Value} {σ : xS} {c : Fin 4} (hd : decode y.2.1 pc = .ok (.aload_n c, 1)) (hk : xlk ls (c : Nat) = some .null) (kk : xX g y d k n Q (pc + 1) ls (.null :: st) σ) : xX g y d k n Q pc ls (st) σ := by
  intro p R e s m args below meth c F Qf hr lsA H locs cells slots hl hH hlo hc hs
  have hx := F.1; have hb := F.2.1
  exact lv_aload_nN hx hb hd rfl (xla_at hl hk) (kk p R e s m args below meth c F Qf hr lsA H locs cells slots hl hH hlo hc hs)
theorem x_aloadN {g : xG} {y : xY} {d k n : Nat} {Q : Option Value → xS → Prop} {pc : Nat} {ls : List (Option Value)} {st : List Value} {σ : xS} {i : Nat} (hd : decode y.2.1 pc = .ok (.aload i, 2)) (hk : xlk ls i = some .null) (kk : xX g y d k n Q (pc + 2) ls (.null :: st) σ) : xX g y d k n Q pc ls (st) σ := by
  intro p R e s m args below meth c F Qf hr lsA H locs cells slots hl hH hlo hc hs
  have hx := F.1; have hb := F.2.1
  exact lv_aloadN hx hb hd (xla_at hl hk) (kk p R e s m args below meth c F Qf hr lsA H locs cells slots hl hH hlo hc hs)
theorem x_istore_n {g : xG} {y : xY} {d k n : Nat} {Q : Option Value → xS → Prop} {pc : Nat} {ls : List (Option Value)} {st : List Value} {σ : xS} {c : Fin 4} {x : Int32} (hd : decode y.2.1 pc = .ok (.istore_n c, 1)) (hn : (c : Nat) < y.2.2.1) (kk : xX g y d k n Q (pc + 1) (xst ls (c : Nat) (.int x)) (st) σ) : xX g y d k n Q pc ls (.int x :: st) σ := by
  intro p R e s m args below meth c F Qf hr lsA H locs cells slots hl hH hlo hc hs
  have hx := F.1; have hb := F.2.1
  exact lv_istore_n hx hb hd rfl hl hn rfl (fun ls2 h2 => kk p R e s m args below meth c F Qf hr ls2 H locs cells slots (xla_st1 h2) hH hlo hc hs)
theorem x_istore {g : xG} {y : xY} {d k n : Nat} {Q : Option Value → xS → Prop} {pc : Nat} {ls : List (Option Value)} {st : List Value} {σ : xS} {i : Nat} {x : Int32} (hd : decode y.2.1 pc = .ok (.istore i, 2)) (hn : i < y.2.2.1) (kk : xX g y d k n Q (pc + 2) (xst ls i (.int x)) (st) σ) : xX g y d k n Q pc ls (.int x :: st) σ := by
  intro p R e s m args below meth c F Qf hr lsA H locs cells slots hl hH hlo hc hs
  have hx := F.1; have hb := F.2.1
  exact lv_istore hx hb hd hl hn rfl (fun ls2 h2 => kk p R e s m args below meth c F Qf hr ls2 H locs cells slots (xla_st1 h2) hH hlo hc hs)
theorem x_astore_n {g : xG} {y : xY} {d k n : Nat} {Q : Option Value → xS → Prop} {pc : Nat} {ls : List (Option Value)} {st : List Value} {σ : xS} {c : Fin 4} {x : Nat} (hd : decode y.2.1 pc = .ok (.astore_n c, 1)) (hn : (c : Nat) < y.2.2.1) (kk : xX g y d k n Q (pc + 1) (xst ls (c : Nat) (.ref x)) (st) σ) : xX g y d k n Q pc ls (.ref x :: st) σ := by
  intro p R e s m args below meth c F Qf hr lsA H locs cells slots hl hH hlo hc hs
  have hx := F.1; have hb := F.2.1
  exact lv_astore_n hx hb hd rfl hl hn rfl (fun ls2 h2 => kk p R e s m args below meth c F Qf hr ls2 H locs cells slots (xla_st1 h2) hH hlo hc hs)
theorem x_astore {g : xG} {y : xY} {d k n : Nat} {Q : Option Value → xS → Prop} {pc : Nat} {ls : List (Option Value)} {st : List Value} {σ : xS} {i : Nat} {x : Nat} (hd : decode y.2.1 pc = .ok (.astore i, 2)) (hn : i < y.2.2.1) (kk : xX g y d k n Q (pc + 2) (xst ls i (.ref x)) (st) σ) : xX g y d k n Q pc ls (.ref x :: st) σ := by
  intro p R e s m args below meth c F Qf hr lsA H locs cells slots hl hH hlo hc hs
  have hx := F.1; have hb := F.2.1
  exact lv_astore hx hb hd hl hn rfl (fun ls2 h2 => kk p R e s m args below meth c F Qf hr ls2 H locs cells slots (xla_st1 h2) hH hlo hc hs)
theorem x_astore_nN {g : xG} {y : xY} {d k n : Nat} {Q : Option Value → xS → Prop} {pc : Nat} {ls : List (Option Value)} {st : List Value} {σ : xS} {c : Fin 4} (hd : decode y.2.1 pc = .ok (.astore_n c, 1)) (hn : (c : Nat) < y.2.2.1) (kk : xX g y d k n Q (pc + 1) (xst ls (c : Nat) .null) (st) σ) : xX g y d k n Q pc ls (.null :: st) σ := by
  intro p R e s m args below meth c F Qf hr lsA H locs cells slots hl hH hlo hc hs
  have hx := F.1; have hb := F.2.1
  exact lv_astore_nN hx hb hd rfl hl hn rfl (fun ls2 h2 => kk p R e s m args below meth c F Qf hr ls2 H locs cells slots (xla_st1 h2) hH hlo hc hs)
theorem x_astoreN {g : xG} {y : xY} {d k n : Nat} {Q : Option Value → xS → Prop} {pc : Nat} {ls : List (Option Value)} {st : List Value} {σ : xS} {i : Nat} (hd : decode y.2.1 pc = .ok (.astore i, 2)) (hn : i < y.2.2.1) (kk : xX g y d k n Q (pc + 2) (xst ls i .null) (st) σ) : xX g y d k n Q pc ls (.null :: st) σ := by
  intro p R e s m args below meth c F Qf hr lsA H locs cells slots hl hH hlo hc hs
  have hx := F.1; have hb := F.2.1
  exact lv_astoreN hx hb hd hl hn rfl (fun ls2 h2 => kk p R e s m args below meth c F Qf hr ls2 H locs cells slots (xla_st1 h2) hH hlo hc hs)
theorem x_lstore_n {g : xG} {y : xY} {d k n : Nat} {Q : Option Value → xS → Prop} {pc : Nat} {ls : List (Option Value)} {st : List Value} {σ : xS} {c : Fin 4} {x : Int64} (hd : decode y.2.1 pc = .ok (.lstore_n c, 1)) (hn : (c : Nat) + 1 < y.2.2.1) (kk : xX g y d k n Q (pc + 1) (xst2 ls (c : Nat) (.long x)) (st) σ) : xX g y d k n Q pc ls (.long x :: st) σ := by
  intro p R e s m args below meth c F Qf hr lsA H locs cells slots hl hH hlo hc hs
  have hx := F.1; have hb := F.2.1
  exact lv_lstore_n hx hb hd rfl hl hn rfl (fun ls2 h2 => kk p R e s m args below meth c F Qf hr ls2 H locs cells slots (xla_st2 h2) hH hlo hc hs)
theorem x_lstore {g : xG} {y : xY} {d k n : Nat} {Q : Option Value → xS → Prop} {pc : Nat} {ls : List (Option Value)} {st : List Value} {σ : xS} {i : Nat} {x : Int64} (hd : decode y.2.1 pc = .ok (.lstore i, 2)) (hn : i + 1 < y.2.2.1) (kk : xX g y d k n Q (pc + 2) (xst2 ls i (.long x)) (st) σ) : xX g y d k n Q pc ls (.long x :: st) σ := by
  intro p R e s m args below meth c F Qf hr lsA H locs cells slots hl hH hlo hc hs
  have hx := F.1; have hb := F.2.1
  exact lv_lstore hx hb hd hl hn rfl (fun ls2 h2 => kk p R e s m args below meth c F Qf hr ls2 H locs cells slots (xla_st2 h2) hH hlo hc hs)
theorem x_iinc {g : xG} {y : xY} {d k n : Nat} {Q : Option Value → xS → Prop} {pc : Nat} {ls : List (Option Value)} {st : List Value} {σ : xS} {i : Nat} {c : Int} {x v : Int32} (hd : decode y.2.1 pc = .ok (.iinc i c, 3)) (hk : xlk ls i = some (.int x)) (hv : x + Int32.ofInt c = v) (hn : i < y.2.2.1) (kk : xX g y d k n Q (pc + 3) (xst ls i (.int v)) st σ) : xX g y d k n Q pc ls st σ := by
  intro p R e s m args below meth c F Qf hr lsA H locs cells slots hl hH hlo hc hs
  have hx := F.1; have hb := F.2.1
  obtain ⟨q, hq⟩ := xla_ix (g := g) hk
  exact lv_iinc hx hb hd hl (k := q) hq hv hn rfl (fun ls2 h2 => kk p R e s m args below meth c F Qf hr ls2 H locs cells slots (xla_st1 h2) hH hlo hc hs)
theorem x_iadd {g : xG} {y : xY} {d k n : Nat} {Q : Option Value → xS → Prop} {pc : Nat} {ls : List (Option Value)} {st : List Value} {σ : xS} {x z : Int32} (hd : decode y.2.1 pc = .ok (.iadd, 1)) (kk : xX g y d k n Q (pc + 1) ls (.int (x + z) :: st) σ) : xX g y d k n Q pc ls (.int z :: .int x :: st) σ := by
  intro p R e s m args below meth c F Qf hr lsA H locs cells slots hl hH hlo hc hs
  have hx := F.1; have hb := F.2.1
  exact lv_iadd hx hb hd (kk p R e s m args below meth c F Qf hr lsA H locs cells slots hl hH hlo hc hs)
theorem x_isub {g : xG} {y : xY} {d k n : Nat} {Q : Option Value → xS → Prop} {pc : Nat} {ls : List (Option Value)} {st : List Value} {σ : xS} {x z : Int32} (hd : decode y.2.1 pc = .ok (.isub, 1)) (kk : xX g y d k n Q (pc + 1) ls (.int (x - z) :: st) σ) : xX g y d k n Q pc ls (.int z :: .int x :: st) σ := by
  intro p R e s m args below meth c F Qf hr lsA H locs cells slots hl hH hlo hc hs
  have hx := F.1; have hb := F.2.1
  exact lv_isub hx hb hd (kk p R e s m args below meth c F Qf hr lsA H locs cells slots hl hH hlo hc hs)
theorem x_imul {g : xG} {y : xY} {d k n : Nat} {Q : Option Value → xS → Prop} {pc : Nat} {ls : List (Option Value)} {st : List Value} {σ : xS} {x z : Int32} (hd : decode y.2.1 pc = .ok (.imul, 1)) (kk : xX g y d k n Q (pc + 1) ls (.int (x * z) :: st) σ) : xX g y d k n Q pc ls (.int z :: .int x :: st) σ := by
  intro p R e s m args below meth c F Qf hr lsA H locs cells slots hl hH hlo hc hs
  have hx := F.1; have hb := F.2.1
  exact lv_imul hx hb hd (kk p R e s m args below meth c F Qf hr lsA H locs cells slots hl hH hlo hc hs)
theorem x_iand {g : xG} {y : xY} {d k n : Nat} {Q : Option Value → xS → Prop} {pc : Nat} {ls : List (Option Value)} {st : List Value} {σ : xS} {x z : Int32} (hd : decode y.2.1 pc = .ok (.iand, 1)) (kk : xX g y d k n Q (pc + 1) ls (.int (x &&& z) :: st) σ) : xX g y d k n Q pc ls (.int z :: .int x :: st) σ := by
  intro p R e s m args below meth c F Qf hr lsA H locs cells slots hl hH hlo hc hs
  have hx := F.1; have hb := F.2.1
  exact lv_iand hx hb hd (kk p R e s m args below meth c F Qf hr lsA H locs cells slots hl hH hlo hc hs)
theorem x_ior {g : xG} {y : xY} {d k n : Nat} {Q : Option Value → xS → Prop} {pc : Nat} {ls : List (Option Value)} {st : List Value} {σ : xS} {x z : Int32} (hd : decode y.2.1 pc = .ok (.ior, 1)) (kk : xX g y d k n Q (pc + 1) ls (.int (x ||| z) :: st) σ) : xX g y d k n Q pc ls (.int z :: .int x :: st) σ := by
  intro p R e s m args below meth c F Qf hr lsA H locs cells slots hl hH hlo hc hs
  have hx := F.1; have hb := F.2.1
  exact lv_ior hx hb hd (kk p R e s m args below meth c F Qf hr lsA H locs cells slots hl hH hlo hc hs)
theorem x_ixor {g : xG} {y : xY} {d k n : Nat} {Q : Option Value → xS → Prop} {pc : Nat} {ls : List (Option Value)} {st : List Value} {σ : xS} {x z : Int32} (hd : decode y.2.1 pc = .ok (.ixor, 1)) (kk : xX g y d k n Q (pc + 1) ls (.int (x ^^^ z) :: st) σ) : xX g y d k n Q pc ls (.int z :: .int x :: st) σ := by
  intro p R e s m args below meth c F Qf hr lsA H locs cells slots hl hH hlo hc hs
  have hx := F.1; have hb := F.2.1
  exact lv_ixor hx hb hd (kk p R e s m args below meth c F Qf hr lsA H locs cells slots hl hH hlo hc hs)
theorem x_idiv {g : xG} {y : xY} {d k n : Nat} {Q : Option Value → xS → Prop} {pc : Nat} {ls : List (Option Value)} {st : List Value} {σ : xS} {x z : Int32} (hd : decode y.2.1 pc = .ok (.idiv, 1)) (hne : ¬ z = 0) (kk : xX g y d k n Q (pc + 1) ls (.int (x / z) :: st) σ) : xX g y d k n Q pc ls (.int z :: .int x :: st) σ := by
  intro p R e s m args below meth c F Qf hr lsA H locs cells slots hl hH hlo hc hs
  have hx := F.1; have hb := F.2.1
  exact lv_idiv hx hb hd hne (kk p R e s m args below meth c F Qf hr lsA H locs cells slots hl hH hlo hc hs)
theorem x_irem {g : xG} {y : xY} {d k n : Nat} {Q : Option Value → xS → Prop} {pc : Nat} {ls : List (Option Value)} {st : List Value} {σ : xS} {x z : Int32} (hd : decode y.2.1 pc = .ok (.irem, 1)) (hne : ¬ z = 0) (kk : xX g y d k n Q (pc + 1) ls (.int (x - x / z * z) :: st) σ) : xX g y d k n Q pc ls (.int z :: .int x :: st) σ := by
  intro p R e s m args below meth c F Qf hr lsA H locs cells slots hl hH hlo hc hs
  have hx := F.1; have hb := F.2.1
  exact lv_irem hx hb hd hne (kk p R e s m args below meth c F Qf hr lsA H locs cells slots hl hH hlo hc hs)
theorem x_ladd {g : xG} {y : xY} {d k n : Nat} {Q : Option Value → xS → Prop} {pc : Nat} {ls : List (Option Value)} {st : List Value} {σ : xS} {x z : Int64} (hd : decode y.2.1 pc = .ok (.ladd, 1)) (kk : xX g y d k n Q (pc + 1) ls (.long (x + z) :: st) σ) : xX g y d k n Q pc ls (.long z :: .long x :: st) σ := by
  intro p R e s m args below meth c F Qf hr lsA H locs cells slots hl hH hlo hc hs
  have hx := F.1; have hb := F.2.1
  exact lv_ladd hx hb hd (kk p R e s m args below meth c F Qf hr lsA H locs cells slots hl hH hlo hc hs)
theorem x_lsub {g : xG} {y : xY} {d k n : Nat} {Q : Option Value → xS → Prop} {pc : Nat} {ls : List (Option Value)} {st : List Value} {σ : xS} {x z : Int64} (hd : decode y.2.1 pc = .ok (.lsub, 1)) (kk : xX g y d k n Q (pc + 1) ls (.long (x - z) :: st) σ) : xX g y d k n Q pc ls (.long z :: .long x :: st) σ := by
  intro p R e s m args below meth c F Qf hr lsA H locs cells slots hl hH hlo hc hs
  have hx := F.1; have hb := F.2.1
  exact lv_lsub hx hb hd (kk p R e s m args below meth c F Qf hr lsA H locs cells slots hl hH hlo hc hs)
theorem x_lmul {g : xG} {y : xY} {d k n : Nat} {Q : Option Value → xS → Prop} {pc : Nat} {ls : List (Option Value)} {st : List Value} {σ : xS} {x z : Int64} (hd : decode y.2.1 pc = .ok (.lmul, 1)) (kk : xX g y d k n Q (pc + 1) ls (.long (x * z) :: st) σ) : xX g y d k n Q pc ls (.long z :: .long x :: st) σ := by
  intro p R e s m args below meth c F Qf hr lsA H locs cells slots hl hH hlo hc hs
  have hx := F.1; have hb := F.2.1
  exact lv_lmul hx hb hd (kk p R e s m args below meth c F Qf hr lsA H locs cells slots hl hH hlo hc hs)
theorem x_land {g : xG} {y : xY} {d k n : Nat} {Q : Option Value → xS → Prop} {pc : Nat} {ls : List (Option Value)} {st : List Value} {σ : xS} {x z : Int64} (hd : decode y.2.1 pc = .ok (.land, 1)) (kk : xX g y d k n Q (pc + 1) ls (.long (x &&& z) :: st) σ) : xX g y d k n Q pc ls (.long z :: .long x :: st) σ := by
  intro p R e s m args below meth c F Qf hr lsA H locs cells slots hl hH hlo hc hs
  have hx := F.1; have hb := F.2.1
  exact lv_land hx hb hd (kk p R e s m args below meth c F Qf hr lsA H locs cells slots hl hH hlo hc hs)
theorem x_lor {g : xG} {y : xY} {d k n : Nat} {Q : Option Value → xS → Prop} {pc : Nat} {ls : List (Option Value)} {st : List Value} {σ : xS} {x z : Int64} (hd : decode y.2.1 pc = .ok (.lor, 1)) (kk : xX g y d k n Q (pc + 1) ls (.long (x ||| z) :: st) σ) : xX g y d k n Q pc ls (.long z :: .long x :: st) σ := by
  intro p R e s m args below meth c F Qf hr lsA H locs cells slots hl hH hlo hc hs
  have hx := F.1; have hb := F.2.1
  exact lv_lor hx hb hd (kk p R e s m args below meth c F Qf hr lsA H locs cells slots hl hH hlo hc hs)
theorem x_lxor {g : xG} {y : xY} {d k n : Nat} {Q : Option Value → xS → Prop} {pc : Nat} {ls : List (Option Value)} {st : List Value} {σ : xS} {x z : Int64} (hd : decode y.2.1 pc = .ok (.lxor, 1)) (kk : xX g y d k n Q (pc + 1) ls (.long (x ^^^ z) :: st) σ) : xX g y d k n Q pc ls (.long z :: .long x :: st) σ := by
  intro p R e s m args below meth c F Qf hr lsA H locs cells slots hl hH hlo hc hs
  have hx := F.1; have hb := F.2.1
  exact lv_lxor hx hb hd (kk p R e s m args below meth c F Qf hr lsA H locs cells slots hl hH hlo hc hs)
theorem x_ldiv {g : xG} {y : xY} {d k n : Nat} {Q : Option Value → xS → Prop} {pc : Nat} {ls : List (Option Value)} {st : List Value} {σ : xS} {x z : Int64} (hd : decode y.2.1 pc = .ok (.ldiv, 1)) (hne : ¬ z = 0) (kk : xX g y d k n Q (pc + 1) ls (.long (x / z) :: st) σ) : xX g y d k n Q pc ls (.long z :: .long x :: st) σ := by
  intro p R e s m args below meth c F Qf hr lsA H locs cells slots hl hH hlo hc hs
  have hx := F.1; have hb := F.2.1
  exact lv_ldiv hx hb hd hne (kk p R e s m args below meth c F Qf hr lsA H locs cells slots hl hH hlo hc hs)
theorem x_lrem {g : xG} {y : xY} {d k n : Nat} {Q : Option Value → xS → Prop} {pc : Nat} {ls : List (Option Value)} {st : List Value} {σ : xS} {x z : Int64} (hd : decode y.2.1 pc = .ok (.lrem, 1)) (hne : ¬ z = 0) (kk : xX g y d k n Q (pc + 1) ls (.long (x - x / z * z) :: st) σ) : xX g y d k n Q pc ls (.long z :: .long x :: st) σ := by
  intro p R e s m args below meth c F Qf hr lsA H locs cells slots hl hH hlo hc hs
  have hx := F.1; have hb := F.2.1
  exact lv_lrem hx hb hd hne (kk p R e s m args below meth c F Qf hr lsA H locs cells slots hl hH hlo hc hs)
theorem x_ishl {g : xG} {y : xY} {d k n : Nat} {Q : Option Value → xS → Prop} {pc : Nat} {ls : List (Option Value)} {st : List Value} {σ : xS} {x z : Int32} (hd : decode y.2.1 pc = .ok (.ishl, 1)) (kk : xX g y d k n Q (pc + 1) ls (.int (x <<< (z &&& 31)) :: st) σ) : xX g y d k n Q pc ls (.int z :: .int x :: st) σ := by
  intro p R e s m args below meth c F Qf hr lsA H locs cells slots hl hH hlo hc hs
  have hx := F.1; have hb := F.2.1
  exact lv_ishl hx hb hd (kk p R e s m args below meth c F Qf hr lsA H locs cells slots hl hH hlo hc hs)
theorem x_ishr {g : xG} {y : xY} {d k n : Nat} {Q : Option Value → xS → Prop} {pc : Nat} {ls : List (Option Value)} {st : List Value} {σ : xS} {x z : Int32} (hd : decode y.2.1 pc = .ok (.ishr, 1)) (kk : xX g y d k n Q (pc + 1) ls (.int (x >>> (z &&& 31)) :: st) σ) : xX g y d k n Q pc ls (.int z :: .int x :: st) σ := by
  intro p R e s m args below meth c F Qf hr lsA H locs cells slots hl hH hlo hc hs
  have hx := F.1; have hb := F.2.1
  exact lv_ishr hx hb hd (kk p R e s m args below meth c F Qf hr lsA H locs cells slots hl hH hlo hc hs)
theorem x_ineg {g : xG} {y : xY} {d k n : Nat} {Q : Option Value → xS → Prop} {pc : Nat} {ls : List (Option Value)} {st : List Value} {σ : xS} {x : Int32} (hd : decode y.2.1 pc = .ok (.ineg, 1)) (kk : xX g y d k n Q (pc + 1) ls (.int (-x) :: st) σ) : xX g y d k n Q pc ls (.int x :: st) σ := by
  intro p R e s m args below meth c F Qf hr lsA H locs cells slots hl hH hlo hc hs
  have hx := F.1; have hb := F.2.1
  exact lv_ineg hx hb hd (kk p R e s m args below meth c F Qf hr lsA H locs cells slots hl hH hlo hc hs)
theorem x_i2l {g : xG} {y : xY} {d k n : Nat} {Q : Option Value → xS → Prop} {pc : Nat} {ls : List (Option Value)} {st : List Value} {σ : xS} {x : Int32} (hd : decode y.2.1 pc = .ok (.i2l, 1)) (kk : xX g y d k n Q (pc + 1) ls (.long x.toInt64 :: st) σ) : xX g y d k n Q pc ls (.int x :: st) σ := by
  intro p R e s m args below meth c F Qf hr lsA H locs cells slots hl hH hlo hc hs
  have hx := F.1; have hb := F.2.1
  exact lv_i2l hx hb hd rfl (kk p R e s m args below meth c F Qf hr lsA H locs cells slots hl hH hlo hc hs)
theorem x_i2c {g : xG} {y : xY} {d k n : Nat} {Q : Option Value → xS → Prop} {pc : Nat} {ls : List (Option Value)} {st : List Value} {σ : xS} {x : Int32} (hd : decode y.2.1 pc = .ok (.i2c, 1)) (kk : xX g y d k n Q (pc + 1) ls (.int (x.toUInt32 % 65536).toInt32 :: st) σ) : xX g y d k n Q pc ls (.int x :: st) σ := by
  intro p R e s m args below meth c F Qf hr lsA H locs cells slots hl hH hlo hc hs
  have hx := F.1; have hb := F.2.1
  exact lv_i2c hx hb hd rfl (kk p R e s m args below meth c F Qf hr lsA H locs cells slots hl hH hlo hc hs)
theorem x_lshl {g : xG} {y : xY} {d k n : Nat} {Q : Option Value → xS → Prop} {pc : Nat} {ls : List (Option Value)} {st : List Value} {σ : xS} {x : Int64} {z : Int32} (hd : decode y.2.1 pc = .ok (.lshl, 1)) (kk : xX g y d k n Q (pc + 1) ls (.long (x <<< (z.toInt64 &&& 63)) :: st) σ) : xX g y d k n Q pc ls (.int z :: .long x :: st) σ := by
  intro p R e s m args below meth c F Qf hr lsA H locs cells slots hl hH hlo hc hs
  have hx := F.1; have hb := F.2.1
  exact lv_lshl hx hb hd rfl (kk p R e s m args below meth c F Qf hr lsA H locs cells slots hl hH hlo hc hs)
theorem x_lcmp {g : xG} {y : xY} {d k n : Nat} {Q : Option Value → xS → Prop} {pc : Nat} {ls : List (Option Value)} {st : List Value} {σ : xS} {x z : Int64} (hd : decode y.2.1 pc = .ok (.lcmp, 1)) (kk : xX g y d k n Q (pc + 1) ls (.int (lg_cmp x z) :: st) σ) : xX g y d k n Q pc ls (.long z :: .long x :: st) σ := by
  intro p R e s m args below meth c F Qf hr lsA H locs cells slots hl hH hlo hc hs
  have hx := F.1; have hb := F.2.1
  exact W.lcmp hx hb hd (kk p R e s m args below meth c F Qf hr lsA H locs cells slots hl hH hlo hc hs)
theorem x_dup {g : xG} {y : xY} {d k n : Nat} {Q : Option Value → xS → Prop} {pc : Nat} {ls : List (Option Value)} {st : List Value} {σ : xS} {v : Value} (hd : decode y.2.1 pc = .ok (.dup, 1)) (hv : v.category = 1) (kk : xX g y d k n Q (pc + 1) ls (v :: v :: st) σ) : xX g y d k n Q pc ls (v :: st) σ := by
  intro p R e s m args below meth c F Qf hr lsA H locs cells slots hl hH hlo hc hs
  have hx := F.1; have hb := F.2.1
  exact lv_dup hx hb hd (by rw [xcv_cat]; exact hv) (kk p R e s m args below meth c F Qf hr lsA H locs cells slots hl hH hlo hc hs)
theorem x_pop {g : xG} {y : xY} {d k n : Nat} {Q : Option Value → xS → Prop} {pc : Nat} {ls : List (Option Value)} {st : List Value} {σ : xS} {v : Value} (hd : decode y.2.1 pc = .ok (.pop, 1)) (hv : v.category = 1) (kk : xX g y d k n Q (pc + 1) ls (st) σ) : xX g y d k n Q pc ls (v :: st) σ := by
  intro p R e s m args below meth c F Qf hr lsA H locs cells slots hl hH hlo hc hs
  have hx := F.1; have hb := F.2.1
  exact lv_pop hx hb hd (by rw [xcv_cat]; exact hv) (kk p R e s m args below meth c F Qf hr lsA H locs cells slots hl hH hlo hc hs)
theorem x_dup2 {g : xG} {y : xY} {d k n : Nat} {Q : Option Value → xS → Prop} {pc : Nat} {ls : List (Option Value)} {st : List Value} {σ : xS} {v w : Value} (hd : decode y.2.1 pc = .ok (.dup2, 1)) (hv : v.category = 1) (hw : w.category = 1) (kk : xX g y d k n Q (pc + 1) ls (v :: w :: v :: w :: st) σ) : xX g y d k n Q pc ls (v :: w :: st) σ := by
  intro p R e s m args below meth c F Qf hr lsA H locs cells slots hl hH hlo hc hs
  have hx := F.1; have hb := F.2.1
  exact lv_dup2_11 hx hb hd (by rw [xcv_cat]; exact hv) (by rw [xcv_cat]; exact hw) (kk p R e s m args below meth c F Qf hr lsA H locs cells slots hl hH hlo hc hs)
theorem x_if_eq {g : xG} {y : xY} {d k n : Nat} {Q : Option Value → xS → Prop} {pc : Nat} {ls : List (Option Value)} {st : List Value} {σ : xS} {x : Int32} {off : Int} {tgt : Nat} (hd : decode y.2.1 pc = .ok (.ifCond .eq off, 3)) (ht : (pc : Int) + off = (tgt : Int)) (kt : x = 0 → xX g y d k n Q tgt ls st σ) (kf : ¬ x = 0 → xX g y d k n Q (pc + 3) ls st σ) : xX g y d k n Q pc ls (.int x :: st) σ := by
  intro p R e s m args below meth c F Qf hr lsA H locs cells slots hl hH hlo hc hs
  have hx := F.1; have hb := F.2.1
  exact lv_if_eq hx hb hd ht (fun h => kt h p R e s m args below meth c F Qf hr lsA H locs cells slots hl hH hlo hc hs) (fun h => kf h p R e s m args below meth c F Qf hr lsA H locs cells slots hl hH hlo hc hs)
theorem x_icmp_eq {g : xG} {y : xY} {d k n : Nat} {Q : Option Value → xS → Prop} {pc : Nat} {ls : List (Option Value)} {st : List Value} {σ : xS} {x z : Int32} {off : Int} {tgt : Nat} (hd : decode y.2.1 pc = .ok (.if_icmp .eq off, 3)) (ht : (pc : Int) + off = (tgt : Int)) (kt : x = z → xX g y d k n Q tgt ls st σ) (kf : ¬ x = z → xX g y d k n Q (pc + 3) ls st σ) : xX g y d k n Q pc ls (.int z :: .int x :: st) σ := by
  intro p R e s m args below meth c F Qf hr lsA H locs cells slots hl hH hlo hc hs
  have hx := F.1; have hb := F.2.1
  exact lv_icmp_eq hx hb hd ht (fun h => kt h p R e s m args below meth c F Qf hr lsA H locs cells slots hl hH hlo hc hs) (fun h => kf h p R e s m args below meth c F Qf hr lsA H locs cells slots hl hH hlo hc hs)
theorem x_if_ne {g : xG} {y : xY} {d k n : Nat} {Q : Option Value → xS → Prop} {pc : Nat} {ls : List (Option Value)} {st : List Value} {σ : xS} {x : Int32} {off : Int} {tgt : Nat} (hd : decode y.2.1 pc = .ok (.ifCond .ne off, 3)) (ht : (pc : Int) + off = (tgt : Int)) (kt : ¬ x = 0 → xX g y d k n Q tgt ls st σ) (kf : x = 0 → xX g y d k n Q (pc + 3) ls st σ) : xX g y d k n Q pc ls (.int x :: st) σ := by
  intro p R e s m args below meth c F Qf hr lsA H locs cells slots hl hH hlo hc hs
  have hx := F.1; have hb := F.2.1
  exact lv_if_ne hx hb hd ht (fun h => kt h p R e s m args below meth c F Qf hr lsA H locs cells slots hl hH hlo hc hs) (fun h => kf h p R e s m args below meth c F Qf hr lsA H locs cells slots hl hH hlo hc hs)
theorem x_icmp_ne {g : xG} {y : xY} {d k n : Nat} {Q : Option Value → xS → Prop} {pc : Nat} {ls : List (Option Value)} {st : List Value} {σ : xS} {x z : Int32} {off : Int} {tgt : Nat} (hd : decode y.2.1 pc = .ok (.if_icmp .ne off, 3)) (ht : (pc : Int) + off = (tgt : Int)) (kt : ¬ x = z → xX g y d k n Q tgt ls st σ) (kf : x = z → xX g y d k n Q (pc + 3) ls st σ) : xX g y d k n Q pc ls (.int z :: .int x :: st) σ := by
  intro p R e s m args below meth c F Qf hr lsA H locs cells slots hl hH hlo hc hs
  have hx := F.1; have hb := F.2.1
  exact lv_icmp_ne hx hb hd ht (fun h => kt h p R e s m args below meth c F Qf hr lsA H locs cells slots hl hH hlo hc hs) (fun h => kf h p R e s m args below meth c F Qf hr lsA H locs cells slots hl hH hlo hc hs)
theorem x_if_lt {g : xG} {y : xY} {d k n : Nat} {Q : Option Value → xS → Prop} {pc : Nat} {ls : List (Option Value)} {st : List Value} {σ : xS} {x : Int32} {off : Int} {tgt : Nat} (hd : decode y.2.1 pc = .ok (.ifCond .lt off, 3)) (ht : (pc : Int) + off = (tgt : Int)) (kt : x < 0 → xX g y d k n Q tgt ls st σ) (kf : ¬ x < 0 → xX g y d k n Q (pc + 3) ls st σ) : xX g y d k n Q pc ls (.int x :: st) σ := by
  intro p R e s m args below meth c F Qf hr lsA H locs cells slots hl hH hlo hc hs
  have hx := F.1; have hb := F.2.1
  exact lv_if_lt hx hb hd ht (fun h => kt h p R e s m args below meth c F Qf hr lsA H locs cells slots hl hH hlo hc hs) (fun h => kf h p R e s m args below meth c F Qf hr lsA H locs cells slots hl hH hlo hc hs)
theorem x_icmp_lt {g : xG} {y : xY} {d k n : Nat} {Q : Option Value → xS → Prop} {pc : Nat} {ls : List (Option Value)} {st : List Value} {σ : xS} {x z : Int32} {off : Int} {tgt : Nat} (hd : decode y.2.1 pc = .ok (.if_icmp .lt off, 3)) (ht : (pc : Int) + off = (tgt : Int)) (kt : x < z → xX g y d k n Q tgt ls st σ) (kf : ¬ x < z → xX g y d k n Q (pc + 3) ls st σ) : xX g y d k n Q pc ls (.int z :: .int x :: st) σ := by
  intro p R e s m args below meth c F Qf hr lsA H locs cells slots hl hH hlo hc hs
  have hx := F.1; have hb := F.2.1
  exact lv_icmp_lt hx hb hd ht (fun h => kt h p R e s m args below meth c F Qf hr lsA H locs cells slots hl hH hlo hc hs) (fun h => kf h p R e s m args below meth c F Qf hr lsA H locs cells slots hl hH hlo hc hs)
theorem x_if_ge {g : xG} {y : xY} {d k n : Nat} {Q : Option Value → xS → Prop} {pc : Nat} {ls : List (Option Value)} {st : List Value} {σ : xS} {x : Int32} {off : Int} {tgt : Nat} (hd : decode y.2.1 pc = .ok (.ifCond .ge off, 3)) (ht : (pc : Int) + off = (tgt : Int)) (kt : 0 ≤ x → xX g y d k n Q tgt ls st σ) (kf : ¬ 0 ≤ x → xX g y d k n Q (pc + 3) ls st σ) : xX g y d k n Q pc ls (.int x :: st) σ := by
  intro p R e s m args below meth c F Qf hr lsA H locs cells slots hl hH hlo hc hs
  have hx := F.1; have hb := F.2.1
  exact lv_if_ge hx hb hd ht (fun h => kt h p R e s m args below meth c F Qf hr lsA H locs cells slots hl hH hlo hc hs) (fun h => kf h p R e s m args below meth c F Qf hr lsA H locs cells slots hl hH hlo hc hs)
theorem x_icmp_ge {g : xG} {y : xY} {d k n : Nat} {Q : Option Value → xS → Prop} {pc : Nat} {ls : List (Option Value)} {st : List Value} {σ : xS} {x z : Int32} {off : Int} {tgt : Nat} (hd : decode y.2.1 pc = .ok (.if_icmp .ge off, 3)) (ht : (pc : Int) + off = (tgt : Int)) (kt : z ≤ x → xX g y d k n Q tgt ls st σ) (kf : ¬ z ≤ x → xX g y d k n Q (pc + 3) ls st σ) : xX g y d k n Q pc ls (.int z :: .int x :: st) σ := by
  intro p R e s m args below meth c F Qf hr lsA H locs cells slots hl hH hlo hc hs
  have hx := F.1; have hb := F.2.1
  exact lv_icmp_ge hx hb hd ht (fun h => kt h p R e s m args below meth c F Qf hr lsA H locs cells slots hl hH hlo hc hs) (fun h => kf h p R e s m args below meth c F Qf hr lsA H locs cells slots hl hH hlo hc hs)
theorem x_if_gt {g : xG} {y : xY} {d k n : Nat} {Q : Option Value → xS → Prop} {pc : Nat} {ls : List (Option Value)} {st : List Value} {σ : xS} {x : Int32} {off : Int} {tgt : Nat} (hd : decode y.2.1 pc = .ok (.ifCond .gt off, 3)) (ht : (pc : Int) + off = (tgt : Int)) (kt : 0 < x → xX g y d k n Q tgt ls st σ) (kf : ¬ 0 < x → xX g y d k n Q (pc + 3) ls st σ) : xX g y d k n Q pc ls (.int x :: st) σ := by
  intro p R e s m args below meth c F Qf hr lsA H locs cells slots hl hH hlo hc hs
  have hx := F.1; have hb := F.2.1
  exact lv_if_gt hx hb hd ht (fun h => kt h p R e s m args below meth c F Qf hr lsA H locs cells slots hl hH hlo hc hs) (fun h => kf h p R e s m args below meth c F Qf hr lsA H locs cells slots hl hH hlo hc hs)
theorem x_icmp_gt {g : xG} {y : xY} {d k n : Nat} {Q : Option Value → xS → Prop} {pc : Nat} {ls : List (Option Value)} {st : List Value} {σ : xS} {x z : Int32} {off : Int} {tgt : Nat} (hd : decode y.2.1 pc = .ok (.if_icmp .gt off, 3)) (ht : (pc : Int) + off = (tgt : Int)) (kt : z < x → xX g y d k n Q tgt ls st σ) (kf : ¬ z < x → xX g y d k n Q (pc + 3) ls st σ) : xX g y d k n Q pc ls (.int z :: .int x :: st) σ := by
  intro p R e s m args below meth c F Qf hr lsA H locs cells slots hl hH hlo hc hs
  have hx := F.1; have hb := F.2.1
  exact lv_icmp_gt hx hb hd ht (fun h => kt h p R e s m args below meth c F Qf hr lsA H locs cells slots hl hH hlo hc hs) (fun h => kf h p R e s m args below meth c F Qf hr lsA H locs cells slots hl hH hlo hc hs)
theorem x_if_le {g : xG} {y : xY} {d k n : Nat} {Q : Option Value → xS → Prop} {pc : Nat} {ls : List (Option Value)} {st : List Value} {σ : xS} {x : Int32} {off : Int} {tgt : Nat} (hd : decode y.2.1 pc = .ok (.ifCond .le off, 3)) (ht : (pc : Int) + off = (tgt : Int)) (kt : x ≤ 0 → xX g y d k n Q tgt ls st σ) (kf : ¬ x ≤ 0 → xX g y d k n Q (pc + 3) ls st σ) : xX g y d k n Q pc ls (.int x :: st) σ := by
  intro p R e s m args below meth c F Qf hr lsA H locs cells slots hl hH hlo hc hs
  have hx := F.1; have hb := F.2.1
  exact lv_if_le hx hb hd ht (fun h => kt h p R e s m args below meth c F Qf hr lsA H locs cells slots hl hH hlo hc hs) (fun h => kf h p R e s m args below meth c F Qf hr lsA H locs cells slots hl hH hlo hc hs)
theorem x_icmp_le {g : xG} {y : xY} {d k n : Nat} {Q : Option Value → xS → Prop} {pc : Nat} {ls : List (Option Value)} {st : List Value} {σ : xS} {x z : Int32} {off : Int} {tgt : Nat} (hd : decode y.2.1 pc = .ok (.if_icmp .le off, 3)) (ht : (pc : Int) + off = (tgt : Int)) (kt : x ≤ z → xX g y d k n Q tgt ls st σ) (kf : ¬ x ≤ z → xX g y d k n Q (pc + 3) ls st σ) : xX g y d k n Q pc ls (.int z :: .int x :: st) σ := by
  intro p R e s m args below meth c F Qf hr lsA H locs cells slots hl hH hlo hc hs
  have hx := F.1; have hb := F.2.1
  exact lv_icmp_le hx hb hd ht (fun h => kt h p R e s m args below meth c F Qf hr lsA H locs cells slots hl hH hlo hc hs) (fun h => kf h p R e s m args below meth c F Qf hr lsA H locs cells slots hl hH hlo hc hs)
theorem x_goto {g : xG} {y : xY} {d k n : Nat} {Q : Option Value → xS → Prop} {pc : Nat} {ls : List (Option Value)} {st : List Value} {σ : xS} {off : Int} {tgt : Nat} (hd : decode y.2.1 pc = .ok (.goto off, 3)) (ht : (pc : Int) + off = (tgt : Int)) (kk : xX g y d k n Q tgt ls st σ) : xX g y d k n Q pc ls st σ := by
  intro p R e s m args below meth c F Qf hr lsA H locs cells slots hl hH hlo hc hs
  have hx := F.1; have hb := F.2.1
  exact lv_goto hx hb hd ht (kk p R e s m args below meth c F Qf hr lsA H locs cells slots hl hH hlo hc hs)
theorem x_ifnonnull {g : xG} {y : xY} {d k n : Nat} {Q : Option Value → xS → Prop} {pc : Nat} {ls : List (Option Value)} {st : List Value} {σ : xS} {x : Nat} {off : Int} {tgt : Nat} (ht : (pc : Int) + off = (tgt : Int)) (hd : decode y.2.1 pc = .ok (.ifnonnull off, 3)) (kk : xX g y d k n Q (tgt) ls st σ) : xX g y d k n Q pc ls (.ref x :: st) σ := by
  intro p R e s m args below meth c F Qf hr lsA H locs cells slots hl hH hlo hc hs
  have hx := F.1; have hb := F.2.1
  exact lv_ifnonnull hx hb hd ht (kk p R e s m args below meth c F Qf hr lsA H locs cells slots hl hH hlo hc hs)
theorem x_ifnonnullN {g : xG} {y : xY} {d k n : Nat} {Q : Option Value → xS → Prop} {pc : Nat} {ls : List (Option Value)} {st : List Value} {σ : xS} {off : Int} (hd : decode y.2.1 pc = .ok (.ifnonnull off, 3)) (kk : xX g y d k n Q (pc + 3) ls st σ) : xX g y d k n Q pc ls (.null :: st) σ := by
  intro p R e s m args below meth c F Qf hr lsA H locs cells slots hl hH hlo hc hs
  have hx := F.1; have hb := F.2.1
  exact lv_ifnonnullN hx hb hd (kk p R e s m args below meth c F Qf hr lsA H locs cells slots hl hH hlo hc hs)
theorem x_ifnull {g : xG} {y : xY} {d k n : Nat} {Q : Option Value → xS → Prop} {pc : Nat} {ls : List (Option Value)} {st : List Value} {σ : xS} {x : Nat} {off : Int} (hd : decode y.2.1 pc = .ok (.ifnull off, 3)) (kk : xX g y d k n Q (pc + 3) ls st σ) : xX g y d k n Q pc ls (.ref x :: st) σ := by
  intro p R e s m args below meth c F Qf hr lsA H locs cells slots hl hH hlo hc hs
  have hx := F.1; have hb := F.2.1
  exact lv_ifnull hx hb hd (kk p R e s m args below meth c F Qf hr lsA H locs cells slots hl hH hlo hc hs)
theorem x_ifnullN {g : xG} {y : xY} {d k n : Nat} {Q : Option Value → xS → Prop} {pc : Nat} {ls : List (Option Value)} {st : List Value} {σ : xS} {off : Int} {tgt : Nat} (ht : (pc : Int) + off = (tgt : Int)) (hd : decode y.2.1 pc = .ok (.ifnull off, 3)) (kk : xX g y d k n Q (tgt) ls st σ) : xX g y d k n Q pc ls (.null :: st) σ := by
  intro p R e s m args below meth c F Qf hr lsA H locs cells slots hl hH hlo hc hs
  have hx := F.1; have hb := F.2.1
  exact lv_ifnullN hx hb hd ht (kk p R e s m args below meth c F Qf hr lsA H locs cells slots hl hH hlo hc hs)
theorem x_tableOut {g : xG} {y : xY} {d k n : Nat} {Q : Option Value → xS → Prop} {pc : Nat} {ls : List (Option Value)} {st : List Value} {σ : xS} {dflt lo hi : Int} {offs : Array Int} {len : Nat} {x : Int32} {tgt : Nat} (hd : decode y.2.1 pc = .ok (.tableswitch dflt lo hi offs, len)) (h : x.toInt < lo ∨ hi < x.toInt) (ht : (pc : Int) + dflt = (tgt : Int)) (kk : xX g y d k n Q tgt ls st σ) : xX g y d k n Q pc ls (.int x :: st) σ := by
  intro p R e s m args below meth c F Qf hr lsA H locs cells slots hl hH hlo hc hs
  have hx := F.1; have hb := F.2.1
  exact lv_tableOut hx hb hd h ht (kk p R e s m args below meth c F Qf hr lsA H locs cells slots hl hH hlo hc hs)
theorem x_tableIn {g : xG} {y : xY} {d k n : Nat} {Q : Option Value → xS → Prop} {pc : Nat} {ls : List (Option Value)} {st : List Value} {σ : xS} {dflt lo hi : Int} {offs : Array Int} {len : Nat} {x : Int32} {off : Int} {tgt : Nat} (hd : decode y.2.1 pc = .ok (.tableswitch dflt lo hi offs, len)) (h1 : ¬ x.toInt < lo) (h2 : ¬ hi < x.toInt) (ho : offs[(x.toInt - lo).toNat]? = some off) (ht : (pc : Int) + off = (tgt : Int)) (kk : xX g y d k n Q tgt ls st σ) : xX g y d k n Q pc ls (.int x :: st) σ := by
  intro p R e s m args below meth c F Qf hr lsA H locs cells slots hl hH hlo hc hs
  have hx := F.1; have hb := F.2.1
  exact lv_tableIn hx hb hd h1 h2 ho ht (kk p R e s m args below meth c F Qf hr lsA H locs cells slots hl hH hlo hc hs)
theorem x_lookup {g : xG} {y : xY} {d k n : Nat} {Q : Option Value → xS → Prop} {pc : Nat} {ls : List (Option Value)} {st : List Value} {σ : xS} {dflt : Int} {ps : Array (Int × Int)} {len : Nat} {x : Int32} {off : Int} {tgt : Nat} (hd : decode y.2.1 pc = .ok (.lookupswitch dflt ps, len)) (hp : (ps.toList.zip (ps.toList.drop 1)).all (fun (a, next) => a.1 < next.1) = true) (ho : Op.lookupswitch.offset ps.toList dflt x.toInt = off) (ht : (pc : Int) + off = (tgt : Int)) (kk : xX g y d k n Q tgt ls st σ) : xX g y d k n Q pc ls (.int x :: st) σ := by
  intro p R e s m args below meth c F Qf hr lsA H locs cells slots hl hH hlo hc hs
  have hx := F.1; have hb := F.2.1
  exact lv_lookup hx hb hd hp ho ht (kk p R e s m args below meth c F Qf hr lsA H locs cells slots hl hH hlo hc hs)
