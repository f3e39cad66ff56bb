/-! heap rows -/
def xup (I : Nat → Nat → Int32) (a k : Nat) (v : Int32) : Nat → Nat → Int32 := fun b => if b = a then upd (I a) k v else I b
def xrp (P : Nat → Nat → Option Nat) (a k : Nat) (v : Option Nat) : Nat → Nat → Option Nat := fun b => if b = a then va_up (P a) k v else P b
theorem xup_s {I : Nat → Nat → Int32} {a k : Nat} {v : Int32} : xup I a k v a = upd (I a) k v := by unfold xup; rw [if_pos rfl]
theorem xup_n {I : Nat → Nat → Int32} {a b k : Nat} {v : Int32} (h : b ≠ a) : xup I a k v b = I b := by unfold xup; rw [if_neg h]
theorem xrp_s {P : Nat → Nat → Option Nat} {a k : Nat} {v : Option Nat} : xrp P a k v a = va_up (P a) k v := by unfold xrp; rw [if_pos rfl]
theorem xrp_n {P : Nat → Nat → Option Nat} {a b k : Nat} {v : Option Nat} (h : b ≠ a) : xrp P a k v b = P b := by unfold xrp; rw [if_neg h]
theorem xE_n {g : xG} {s : State} {w : Cond} (h : xE g s) (hw : w ∈ lw_n) : va_Nw w s := h.2.2.2.2.2.2.2.2.2.2 w hw
theorem xN_use {g : xG} {s : State} {args : Array Value} {w : Cond} (h : xE g s) (hw : w ∈ lw_n) : w.before args s = true := va_Nw.use (xN_on hw) (xE_n h hw)
theorem xH_cell {g : xG} {σ : xS} {H : Heap} {a : Nat} (h : xH g σ H) (ha : (σ.2.1 a).1 < 15) : 64 ≤ a ∧ a < σ.1 ∧ xcell g σ a H := h.2.2 a ha
theorem xH_upd {g : xG} {σ σ' : xS} {H H' : Heap} {a : Nat} (h : xH g σ H) (ha : (σ.2.1 a).1 < 15) (e1 : σ'.1 = σ.1) (e2 : σ'.2.1 = σ.2.1) (e3 : ∀ b, b ≠ a → σ'.2.2.1 b = σ.2.2.1 b ∧ σ'.2.2.2 b = σ.2.2.2 b) (z : H'.size = H.size) (oq : ∀ q, q ≠ xad g a → H'[q]? = H[q]?) (hc : xcell g σ' a H') : xH g σ' H' := by
  obtain ⟨h1, h2, h3⟩ := h
  have ha64 := (h3 a ha).1
  refine ⟨by rw [z, e1]; exact h1, fun q hq => ?_, fun b hb => ?_⟩
  · rw [oq q (by have := xad_ge (g := g) ha64; omega)]
    exact h2 q hq
  · rw [e2] at hb
    obtain ⟨b1, b2, b3⟩ := h3 b hb
    refine ⟨b1, by rw [e1]; exact b2, ?_⟩
    by_cases hba : b = a
    · rw [hba]; exact hc
    · exact xcell_kept b3 (by rw [e2]) (e3 b hba).1 (e3 b hba).2 (oq _ (xad_ne b1 ha64 hba))
theorem xcell_ob {g : xG} {σ : xS} {H : Heap} {a ci : Nat} {r : vw_C} (h : xcell g σ a H) (hk : (σ.2.1 a).1 = ci) (hr : vwCl[ci]? = some r) (hci : ci < 12) : t_OB (xad g a) (g.2.2.1 ci) r.2.2 (g.2.2.2.1 ci) H (xfv g σ a ci) := by
  obtain ⟨r', h1, h2⟩ := h.1 (by omega)
  rw [hk] at h1 h2
  cases h1.symm.trans hr
  exact h2
theorem xcl_lt {ci : Nat} {r : vw_C} (h : vwCl[ci]? = some r) : ci < 12 := (List.getElem?_eq_some_iff.mp h).1
theorem x_geti {g : xG} {y : xY} {d k n : Nat} {Q : Option Value → xS → Prop} {pc : Nat} {ls : List (Option Value)} {st : List Value} {σ : xS} {a ci kf index : Nat} (hd : decode y.2.1 pc = .ok (.getfield index, 3)) (hf : xFl y.1.cls index ci kf) (hk : (σ.2.1 a).1 = ci) (hR : xR ci kf = false) (kk : xX g y d k n Q (pc + 3) ls (.int (σ.2.2.2 a kf) :: st) σ) : xX g y d k n Q pc ls (.ref a :: st) σ := by
  have e : xcv g (.int (σ.2.2.2 a kf)) = xfv g σ a ci kf := by unfold xfv; rw [hR]; rfl
  intro p R e' s m args below meth c F Qf hr lsA H locs cells slots hl hH hlo hc hs
  obtain ⟨hx, hb, -, hown, hts, -, -, -, hE, -, -⟩ := id F
  obtain ⟨r, c1, c2, c3, c4, c5⟩ := hf
  have hci := xcl_lt c1
  obtain ⟨b1, b2, b3⟩ := xH_cell hH (a := a) (by omega)
  obtain ⟨cell, q1, q2, q3, q4⟩ := xcell_ob b3 hk c1 hci
  obtain ⟨hS, hfc, kC, hkC, hkind⟩ := hE.1.1 ci r c1
  obtain ⟨cf, kf', fi, f, hi, hsl⟩ := hS kf c2
  have hst := (u_facts hfc hkC (u_lays hts c3 c2) hi).1
  have hK := kk p R e' s m args below meth c F Qf hr lsA H locs cells slots hl hH hlo hc hs
  have hslot : cell.slots[f.slot]? = some (.int (σ.2.2.2 a kf)) := by rw [hsl, q4 kf c2, ← e]; rfl
  rw [c4] at hi
  rcases c5 with c5 | ⟨host, c5⟩
  · exact W.getf hx hb hown (hts _ c5) hi hst q1 (by rw [q3]; exact fun h => by cases h) hslot rfl rfl hd hK
  · exact va_Wgetf hx hb hown (xN_use hE c5) hi hst q1 (by rw [q3]; exact fun h => by cases h) hslot rfl rfl hd hK
theorem x_getrv {g : xG} {y : xY} {d k n : Nat} {Q : Option Value → xS → Prop} {pc : Nat} {ls : List (Option Value)} {st : List Value} {σ : xS} {a ci kf index : Nat} {v : Value} (hd : decode y.2.1 pc = .ok (.getfield index, 3)) (hf : xFl y.1.cls index ci kf) (hk : (σ.2.1 a).1 = ci) (hv : xcv g v = xfv g σ a ci kf) (kk : xX g y d k n Q (pc + 3) ls (v :: st) σ) : xX g y d k n Q pc ls (.ref a :: st) σ := by
  intro p R e' s m args below meth c F Qf hr lsA H locs cells slots hl hH hlo hc hs
  obtain ⟨hx, hb, -, hown, hts, -, -, -, hE, -, -⟩ := id F
  obtain ⟨r, c1, c2, c3, c4, c5⟩ := hf
  have hci := xcl_lt c1
  obtain ⟨b1, b2, b3⟩ := xH_cell hH (a := a) (by omega)
  obtain ⟨cell, q1, q2, q3, q4⟩ := xcell_ob b3 hk c1 hci
  obtain ⟨hS, hfc, kC, hkC, hkind⟩ := hE.1.1 ci r c1
  obtain ⟨cf, kf', fi, f, hi, hsl⟩ := hS kf c2
  have hst := (u_facts hfc hkC (u_lays hts c3 c2) hi).1
  have hK := kk p R e' s m args below meth c F Qf hr lsA H locs cells slots hl hH hlo hc hs
  have hslot : cell.slots[f.slot]? = some (xcv g v) := by rw [hsl, q4 kf c2, hv]
  rw [c4] at hi
  rcases c5 with c5 | ⟨host, c5⟩
  · exact W.getf hx hb hown (hts _ c5) hi hst q1 (by rw [q3]; exact fun h => by cases h) hslot rfl rfl hd hK
  · exact va_Wgetf hx hb hown (xN_use hE c5) hi hst q1 (by rw [q3]; exact fun h => by cases h) hslot rfl rfl hd hK
theorem x_getr {g : xG} {y : xY} {d k n : Nat} {Q : Option Value → xS → Prop} {pc : Nat} {ls : List (Option Value)} {st : List Value} {σ : xS} {a b ci kf index : Nat} (hd : decode y.2.1 pc = .ok (.getfield index, 3)) (hf : xFl y.1.cls index ci kf) (hk : (σ.2.1 a).1 = ci) (hR : xR ci kf = true) (hP : σ.2.2.1 a kf = some b) (kk : xX g y d k n Q (pc + 3) ls (.ref b :: st) σ) : xX g y d k n Q pc ls (.ref a :: st) σ :=
  x_getrv (v := .ref b) hd hf hk (by unfold xfv; rw [hR, hP]; rfl) kk
theorem x_getrN {g : xG} {y : xY} {d k n : Nat} {Q : Option Value → xS → Prop} {pc : Nat} {ls : List (Option Value)} {st : List Value} {σ : xS} {a ci kf index : Nat} (hd : decode y.2.1 pc = .ok (.getfield index, 3)) (hf : xFl y.1.cls index ci kf) (hk : (σ.2.1 a).1 = ci) (hR : xR ci kf = true) (hP : σ.2.2.1 a kf = none) (kk : xX g y d k n Q (pc + 3) ls (.null :: st) σ) : xX g y d k n Q pc ls (.ref a :: st) σ :=
  x_getrv (v := .null) hd hf hk (by unfold xfv; rw [hR, hP]; rfl) kk
/-- what a put makes of an object -/
theorem x_obput {g : xG} {σ σ' : xS} {H' : Heap} {a ci kf : Nat} {r : vw_C} {cell : Cell} {v : Value} {iS : Nat → Nat} {cC : ClassId} (q2 : cell.cls = cC) (q3 : cell.vm = .none) (q4 : ∀ k, k < r.2.2 → cell.slots[iS k]? = some (xfv g σ a ci k)) (hap : ∀ x y, x < r.2.2 → y < r.2.2 → x ≠ y → iS x ≠ iS y) (hk : kf < r.2.2) (e1 : H'[xad g a]? = some (cell.setSlot (iS kf) v)) (hv : xfv g σ' a ci kf = v) (ho : ∀ j, j ≠ kf → xfv g σ' a ci j = xfv g σ a ci j) : t_OB (xad g a) cC r.2.2 iS H' (xfv g σ' a ci) := by
  refine t_OB.to (V := updV (xfv g σ a ci) kf v) ⟨_, e1, q2, q3, t_set q4 hap hk v⟩ (fun j _ => ?_)
  unfold updV
  by_cases hj : j = kf
  · rw [if_pos hj, hj, hv]
  · rw [if_neg hj, ho j hj]
theorem x_putv {g : xG} {y : xY} {d k n : Nat} {Q : Option Value → xS → Prop} {pc : Nat} {ls : List (Option Value)} {st : List Value} {σ : xS} {σ' : xS} {a ci kf index : Nat} {v : Value} {ty : FieldType} (hd : decode y.2.1 pc = .ok (.putfield index, 3)) (hf : xFl y.1.cls index ci kf) (ht : xFt ci kf ty false) (hk : (σ.2.1 a).1 = ci) (hn : narrow ty (xcv g v) = xcv g v) (hfit : fits ty (xcv g v) = true) (e1 : σ'.1 = σ.1) (e2 : σ'.2.1 = σ.2.1) (e3 : ∀ b, b ≠ a → σ'.2.2.1 b = σ.2.2.1 b ∧ σ'.2.2.2 b = σ.2.2.2 b) (hv : xfv g σ' a ci kf = xcv g v) (ho : ∀ j, j ≠ kf → xfv g σ' a ci j = xfv g σ a ci j) (kk : xX g y d k n Q (pc + 3) ls st σ') : xX g y d k n Q pc ls (v :: .ref a :: st) σ := by
  intro p R e' s m args below meth c F Qf hr lsA H locs cells slots hl hH hlo hc hs
  obtain ⟨hx, hb, -, hown, hts, -, -, -, hE, -, -⟩ := id F
  obtain ⟨r, c1, c2, c3, c4, c5⟩ := hf
  obtain ⟨r', tys, t1, t2, t3, t4, t5⟩ := ht
  cases t1.symm.trans c1
  have hci := xcl_lt c1
  obtain ⟨b1, b2, b3⟩ := xH_cell hH (a := a) (by omega)
  obtain ⟨cell, q1, q2, q3, q4⟩ := xcell_ob b3 hk c1 hci
  have hap := va_apart (own := r.1) hts c3 tys t2 t3 hE.1 c1
  obtain ⟨hS, hfc, kC, hkC, hkind⟩ := hE.1.1 ci r c1
  obtain ⟨cf, kf', fi, f, hi, hsl⟩ := hS kf c2
  have hlay := hts _ (c3 _ (u_in_lay c2))
  unfold u_lay at hlay
  rw [if_neg (by rw [t5]; decide)] at hlay
  have hst := (u_facts hfc hkC (u_lays hts c3 c2) hi).1
  have h6 := u_store hfc hkC hkind hlay hi t4 hn hfit
  have hlt : f.slot < cell.slots.size := by rw [hsl]; exact k2_hasslot (q4 kf c2)
  rw [c4] at hi
  have fin : ∀ H' : Heap, H'[xad g a]? = some (cell.setSlot f.slot (xcv g v)) → H'.size = H.size → (∀ q, q ≠ xad g a → H'[q]? = H[q]?) → W p g.1 e' R s m args below meth c H' (locs ++ [⟨xad g a, f.slot⟩]) cells slots Qf (F0 m (pc + 3) lsA (st.map (xcv g))) := by
    intro H' w1 w2 w3
    rw [hsl] at w1
    refine kk p R e' s m args below meth c F Qf hr lsA H' _ cells slots hl (xH_upd hH (by omega) e1 e2 e3 w2 w3 ?_) ?_ hc hs
    · have hob := x_obput q2 q3 q4 hap c2 w1 hv ho
      refine ⟨fun _ => ⟨r, by rw [e2, hk]; exact c1, by rw [e2, hk]; exact hob⟩, fun z => ?_, fun z => ?_⟩
      · rw [e2, hk] at z; omega
      · rw [e2, hk] at z; omega
    · intro q hq
      rcases List.mem_append.mp hq with h | h
      · exact hlo q h
      · rw [List.mem_singleton.mp h]; exact xad_ge b1
  rcases c5 with c5 | ⟨host, c5⟩
  · exact W.putK hx hb (f := f) ⟨hown, hts _ c5, ⟨_, _, _, hi⟩, hst⟩ (by rw [q2]; exact h6) q1 q3 hlt rfl rfl hd fin
  · exact va_WputK hx hb (f := f) hown (xN_use hE c5) hi hst (by rw [q2]; exact h6) q1 q3 hlt rfl rfl hd fin
theorem x_putFv {g : xG} {y : xY} {d k n : Nat} {Q : Option Value → xS → Prop} {pc : Nat} {ls : List (Option Value)} {st : List Value} {σ : xS} {σ' : xS} {a ci kf index : Nat} {v : Value} {ty : FieldType} (hd : decode y.2.1 pc = .ok (.putfield index, 3)) (hf : xFl y.1.cls index ci kf) (ht : xFt ci kf ty true) (hin : y.1.name = "<init>") (hoc : vwCl[ci]?.map (·.1) = some y.1.cls) (hk : (σ.2.1 a).1 = ci) (hn : narrow ty (xcv g v) = xcv g v) (hfit : fits ty (xcv g v) = true) (e1 : σ'.1 = σ.1) (e2 : σ'.2.1 = σ.2.1) (e3 : ∀ b, b ≠ a → σ'.2.2.1 b = σ.2.2.1 b ∧ σ'.2.2.2 b = σ.2.2.2 b) (hv : xfv g σ' a ci kf = xcv g v) (ho : ∀ j, j ≠ kf → xfv g σ' a ci j = xfv g σ a ci j) (kk : xX g y d k n Q (pc + 3) ls st σ') : xX g y d k n Q pc ls (v :: .ref a :: st) σ := by
  intro p R e' s m args below meth c F Qf hr lsA H locs cells slots hl hH hlo hc hs
  obtain ⟨hx, hb, -, hown, hts, -, -, hmn, hE, -, -⟩ := id F
  obtain ⟨r, c1, c2, c3, c4, c5⟩ := hf
  obtain ⟨r', tys, t1, t2, t3, t4, t5⟩ := ht
  cases t1.symm.trans c1
  have hoc' : r.1 = y.1.cls := by rw [c1] at hoc; exact Option.some.inj hoc
  have hci := xcl_lt c1
  obtain ⟨b1, b2, b3⟩ := xH_cell hH (a := a) (by omega)
  obtain ⟨cell, q1, q2, q3, q4⟩ := xcell_ob b3 hk c1 hci
  have hap := va_apart (own := r.1) hts c3 tys t2 t3 hE.1 c1
  obtain ⟨hS, hfc, kC, hkC, hkind⟩ := hE.1.1 ci r c1
  obtain ⟨cf, kf', fi, f, hi, hsl⟩ := hS kf c2
  have hlay := hts _ (c3 _ (u_in_lay c2))
  unfold u_lay at hlay
  rw [if_pos t5] at hlay
  have hst := (u_facts hfc hkC (u_lays hts c3 c2) hi).1
  have hcf : m.cls = cf := by
    obtain ⟨_, _, c', _, _, _, -, -, hf', -, -, -, hown2, -⟩ := Cond.laysFinal_spec hlay
    have e1 : c' = cf := by have := hi.symm.trans hf'; simp at this; exact this.1.symm
    rw [c4, hoc'] at hown2
    rw [← e1]; exact Option.some.inj (hown.symm.trans hown2)
  have h6 := u_fits hfc hkC hkind (Or.inr hlay) hi t4 hn hfit
  have hlt : f.slot < cell.slots.size := by rw [hsl]; exact k2_hasslot (q4 kf c2)
  rw [c4] at hi
  have fin : ∀ H' : Heap, H'[xad g a]? = some (cell.setSlot f.slot (xcv g v)) → H'.size = H.size → (∀ q, q ≠ xad g a → H'[q]? = H[q]?) → W p g.1 e' R s m args below meth c H' (locs ++ [⟨xad g a, f.slot⟩]) cells slots Qf (F0 m (pc + 3) lsA (st.map (xcv g))) := by
    intro H' w1 w2 w3
    rw [hsl] at w1
    refine kk p R e' s m args below meth c F Qf hr lsA H' _ cells slots hl (xH_upd hH (by omega) e1 e2 e3 w2 w3 ?_) ?_ hc hs
    · have hob := x_obput q2 q3 q4 hap c2 w1 hv ho
      refine ⟨fun _ => ⟨r, by rw [e2, hk]; exact c1, by rw [e2, hk]; exact hob⟩, fun z => ?_, fun z => ?_⟩
      · rw [e2, hk] at z; omega
      · rw [e2, hk] at z; omega
    · intro q hq
      rcases List.mem_append.mp hq with h | h
      · exact hlo q h
      · rw [List.mem_singleton.mp h]; exact xad_ge b1
  rcases c5 with c5 | ⟨host, c5⟩
  · exact W.putFinK hx hb hown (hts _ c5) hi hst hcf (by rw [hmn]; exact hin) (by rw [q2]; exact h6) q1 q3 hlt rfl rfl hd fin
  · have ha : xad g a < H.size := (Array.getElem?_eq_some_iff.mp q1).1
    refine va_Wputf hx hb hown (xN_use hE c5) hi hst (Or.inr ⟨hcf, by rw [hmn]; exact hin⟩) q1 (by rw [q3]; exact fun h => by cases h) hlt h6.1 (by rw [q2, q3]; exact h6.2) rfl rfl hd (fin _ ?_ ?_ ?_)
    · simp [Array.getElem?_setIfInBounds, ha]
    · simp
    · intro q hq
      simp [Array.getElem?_setIfInBounds, Ne.symm hq]
theorem xfv_i {g : xG} {nx : Nat} {sh : Nat → Nat × Nat} {P : Nat → Nat → Option Nat} {I : Nat → Nat → Int32} {a ci kf : Nat} {v : Int32} (hR : xR ci kf = false) : xfv g (nx, sh, P, xup I a kf v) a ci kf = .int v := by
  unfold xfv; rw [hR]
  show Value.int (xup I a kf v a kf) = _
  rw [xup_s]; unfold upd; rw [if_pos rfl]
theorem xfv_io {g : xG} {nx : Nat} {sh : Nat → Nat × Nat} {P : Nat → Nat → Option Nat} {I : Nat → Nat → Int32} {a ci kf j : Nat} {v : Int32} (hj : j ≠ kf) : xfv g (nx, sh, P, xup I a kf v) a ci j = xfv g (nx, sh, P, I) a ci j := by
  unfold xfv
  show (if xR ci j = true then va_rf ((P a j).map (xad g)) else Value.int (xup I a kf v a j)) = _
  rw [xup_s]; unfold upd; rw [if_neg hj]
theorem xfv_r {g : xG} {nx : Nat} {sh : Nat → Nat × Nat} {P : Nat → Nat → Option Nat} {I : Nat → Nat → Int32} {a ci kf : Nat} {v : Option Nat} (hR : xR ci kf = true) : xfv g (nx, sh, xrp P a kf v, I) a ci kf = va_rf (v.map (xad g)) := by
  unfold xfv; rw [hR]
  show va_rf ((xrp P a kf v a kf).map (xad g)) = _
  rw [xrp_s]; unfold va_up; rw [if_pos rfl]
theorem xfv_ro {g : xG} {nx : Nat} {sh : Nat → Nat × Nat} {P : Nat → Nat → Option Nat} {I : Nat → Nat → Int32} {a ci kf j : Nat} {v : Option Nat} (hj : j ≠ kf) : xfv g (nx, sh, xrp P a kf v, I) a ci j = xfv g (nx, sh, P, I) a ci j := by
  unfold xfv
  show (if xR ci j = true then va_rf ((xrp P a kf v a j).map (xad g)) else Value.int (I a j)) = _
  rw [xrp_s]; unfold va_up; rw [if_neg hj]
section XROWS
variable {g : xG} {y : xY} {d k n : Nat} {Q : Option Value → xS → Prop} {pc : Nat} {ls : List (Option Value)} {st : List Value} {nx : Nat} {sh : Nat → Nat × Nat} {P : Nat → Nat → Option Nat} {I : Nat → Nat → Int32}
theorem x_puti {a ci kf index : Nat} {v : Int32} {ty : FieldType} (hd : decode y.2.1 pc = .ok (.putfield index, 3)) (hf : xFl y.1.cls index ci kf) (ht : xFt ci kf ty false) (hk : (sh a).1 = ci) (hR : xR ci kf = false) (hn : narrow ty (.int v) = .int v) (hfit : fits ty (.int v) = true) (kk : xX g y d k n Q (pc + 3) ls st (nx, sh, P, xup I a kf v)) : xX g y d k n Q pc ls (.int v :: .ref a :: st) (nx, sh, P, I) :=
  x_putv (σ' := (nx, sh, P, xup I a kf v)) hd hf ht hk hn hfit rfl rfl (fun b hb => ⟨rfl, xup_n hb⟩) (xfv_i hR) (fun j hj => xfv_io hj) kk
theorem x_putiF {a ci kf index : Nat} {v : Int32} {ty : FieldType} (hd : decode y.2.1 pc = .ok (.putfield index, 3)) (hf : xFl y.1.cls index ci kf) (ht : xFt ci kf ty true) (hin : y.1.name = "<init>") (hoc : vwCl[ci]?.map (·.1) = some y.1.cls) (hk : (sh a).1 = ci) (hR : xR ci kf = false) (hn : narrow ty (.int v) = .int v) (hfit : fits ty (.int v) = true) (kk : xX g y d k n Q (pc + 3) ls st (nx, sh, P, xup I a kf v)) : xX g y d k n Q pc ls (.int v :: .ref a :: st) (nx, sh, P, I) :=
  x_putFv (σ' := (nx, sh, P, xup I a kf v)) hd hf ht hin hoc hk hn hfit rfl rfl (fun b hb => ⟨rfl, xup_n hb⟩) (xfv_i hR) (fun j hj => xfv_io hj) kk
theorem x_putr {a b ci kf index : Nat} {ty : FieldType} (hd : decode y.2.1 pc = .ok (.putfield index, 3)) (hf : xFl y.1.cls index ci kf) (ht : xFt ci kf ty false) (hk : (sh a).1 = ci) (hR : xR ci kf = true) (hn : ∀ z : Nat, narrow ty (.ref z) = .ref z) (hfit : ∀ z : Nat, fits ty (.ref z) = true) (kk : xX g y d k n Q (pc + 3) ls st (nx, sh, xrp P a kf (some b), I)) : xX g y d k n Q pc ls (.ref b :: .ref a :: st) (nx, sh, P, I) :=
  x_putv (σ' := (nx, sh, xrp P a kf (some b), I)) hd hf ht hk (hn _) (hfit _) rfl rfl (fun b hb => ⟨xrp_n hb, rfl⟩) (xfv_r hR) (fun j hj => xfv_ro hj) kk
theorem x_putrN {a ci kf index : Nat} {ty : FieldType} (hd : decode y.2.1 pc = .ok (.putfield index, 3)) (hf : xFl y.1.cls index ci kf) (ht : xFt ci kf ty false) (hk : (sh a).1 = ci) (hR : xR ci kf = true) (hn : narrow ty .null = .null) (hfit : fits ty .null = true) (kk : xX g y d k n Q (pc + 3) ls st (nx, sh, xrp P a kf none, I)) : xX g y d k n Q pc ls (.null :: .ref a :: st) (nx, sh, P, I) :=
  x_putv (σ' := (nx, sh, xrp P a kf none, I)) hd hf ht hk hn hfit rfl rfl (fun b hb => ⟨xrp_n hb, rfl⟩) (xfv_r hR) (fun j hj => xfv_ro hj) kk
theorem x_putrF {a b ci kf index : Nat} {ty : FieldType} (hd : decode y.2.1 pc = .ok (.putfield index, 3)) (hf : xFl y.1.cls index ci kf) (ht : xFt ci kf ty true) (hin : y.1.name = "<init>") (hoc : vwCl[ci]?.map (·.1) = some y.1.cls) (hk : (sh a).1 = ci) (hR : xR ci kf = true) (hn : ∀ z : Nat, narrow ty (.ref z) = .ref z) (hfit : ∀ z : Nat, fits ty (.ref z) = true) (kk : xX g y d k n Q (pc + 3) ls st (nx, sh, xrp P a kf (some b), I)) : xX g y d k n Q pc ls (.ref b :: .ref a :: st) (nx, sh, P, I) :=
  x_putFv (σ' := (nx, sh, xrp P a kf (some b), I)) hd hf ht hin hoc hk (hn _) (hfit _) rfl rfl (fun b hb => ⟨xrp_n hb, rfl⟩) (xfv_r hR) (fun j hj => xfv_ro hj) kk
end XROWS
theorem xcell_ar {g : xG} {σ : xS} {H : Heap} {a len : Nat} {ty : Nat} (h : xcell g σ a H) (hk : σ.2.1 a = (ty, len)) (ht : ty = 12 ∨ ty = 13) : H[xad g a]? = some (arrV (g.2.2.2.2.1 ty) len (fun k => .int (σ.2.2.2 a k))) := by
  have := h.2.1 (by rw [hk]; exact ht)
  rw [hk] at this
  exact this
theorem x_inA {i : Int32} {n : Nat} {cA : ClassId} {f : Nat → Value} (h : vp_in i n) : ¬ (i < 0 ∨ (arrV cA n f).slots.size ≤ i.toNatClampNeg) := by rw [arrV_size]; exact h
theorem x_ltA {i : Int32} {n : Nat} (h : vp_in i n) : i.toNatClampNeg < n := Nat.not_le.mp fun q => h (Or.inr q)
theorem x_iaload {g : xG} {y : xY} {d k n : Nat} {Q : Option Value → xS → Prop} {pc : Nat} {ls : List (Option Value)} {st : List Value} {σ : xS} {a len : Nat} {i : Int32} (hd : decode y.2.1 pc = .ok (.iaload, 1)) (hk : σ.2.1 a = (12, len)) (hin : vp_in i len) (kk : xX g y d k n Q (pc + 1) ls (.int (σ.2.2.2 a i.toNatClampNeg) :: st) σ) : xX g y d k n Q pc ls (.int i :: .ref a :: st) σ := by
  intro p R e' s m args below meth c F Qf hr lsA H locs cells slots hl hH hlo hc hs
  obtain ⟨hx, hb, -, hown, hts, -, -, -, hE, -, -⟩ := id F
  obtain ⟨b1, b2, b3⟩ := xH_cell hH (a := a) (by rw [hk]; exact Nat.le_of_ble_eq_true rfl)
  exact W.iald (v := .int (σ.2.2.2 a i.toNatClampNeg)) hx hb (xcell_ar b3 hk (Or.inl rfl)) ((hE.1.2 0 _ rfl).1 len _) (fun q => by cases q) (x_inA hin) (arrV_read _ _ (x_ltA hin)) rfl rfl hd (kk p R e' s m args below meth c F Qf hr lsA H locs cells slots hl hH hlo hc hs)
theorem x_zaload {g : xG} {y : xY} {d k n : Nat} {Q : Option Value → xS → Prop} {pc : Nat} {ls : List (Option Value)} {st : List Value} {σ : xS} {a len : Nat} {i : Int32} (hd : decode y.2.1 pc = .ok (.baload, 1)) (hk : σ.2.1 a = (13, len)) (hin : vp_in i len) (kk : xX g y d k n Q (pc + 1) ls (.int (σ.2.2.2 a i.toNatClampNeg) :: st) σ) : xX g y d k n Q pc ls (.int i :: .ref a :: st) σ := by
  intro p R e' s m args below meth c F Qf hr lsA H locs cells slots hl hH hlo hc hs
  obtain ⟨hx, hb, -, hown, hts, -, -, -, hE, -, -⟩ := id F
  obtain ⟨b1, b2, b3⟩ := xH_cell hH (a := a) (by rw [hk]; exact Nat.le_of_ble_eq_true rfl)
  exact W.zald (v := .int (σ.2.2.2 a i.toNatClampNeg)) hx hb (xcell_ar b3 hk (Or.inr rfl)) ((hE.1.2 1 _ rfl).1 len _) (fun q => by cases q) (x_inA hin) (arrV_read _ _ (x_ltA hin)) rfl rfl hd (kk p R e' s m args below meth c F Qf hr lsA H locs cells slots hl hH hlo hc hs)
theorem x_alen {g : xG} {y : xY} {d k n : Nat} {Q : Option Value → xS → Prop} {pc : Nat} {ls : List (Option Value)} {st : List Value} {σ : xS} {a len ty : Nat} (hd : decode y.2.1 pc = .ok (.arraylength, 1)) (hk : σ.2.1 a = (ty, len)) (ht : ty = 12 ∨ ty = 13 ∨ ty = 14) (kk : xX g y d k n Q (pc + 1) ls (.int (nI len) :: st) σ) : xX g y d k n Q pc ls (.ref a :: st) σ := by
  intro p R e' s m args below meth c F Qf hr lsA H locs cells slots hl hH hlo hc hs
  obtain ⟨hx, hb, -, hown, hts, -, -, -, hE, -, -⟩ := id F
  obtain ⟨b1, b2, b3⟩ := xH_cell hH (a := a) (by rw [hk]; show ty < 15; omega)
  have hK := kk p R e' s m args below meth c F Qf hr lsA H locs cells slots hl hH hlo hc hs
  rcases ht with rfl | rfl | rfl
  · exact W.alen (n := nI len) hx hb (xcell_ar b3 hk (Or.inl rfl)) ((hE.1.2 0 _ rfl).1 len _) (by rw [arrV_size]; rfl) rfl rfl hd hK
  · exact W.alen (n := nI len) hx hb (xcell_ar b3 hk (Or.inr rfl)) ((hE.1.2 1 _ rfl).1 len _) (by rw [arrV_size]; rfl) rfl rfl hd hK
  · have hq := b3.2.2 (by rw [hk])
    rw [hk] at hq
    exact W.alen (n := nI len) hx hb hq ((hE.1.2 2 _ rfl).1 len _) (by rw [arrV_size]; rfl) rfl rfl hd hK
theorem x_aaload {g : xG} {y : xY} {d k n : Nat} {Q : Option Value → xS → Prop} {pc : Nat} {ls : List (Option Value)} {st : List Value} {σ : xS} {a b len : Nat} {i : Int32} (hd : decode y.2.1 pc = .ok (.aaload, 1)) (hk : σ.2.1 a = (14, len)) (hin : vp_in i len) (hP : σ.2.2.1 a i.toNatClampNeg = some b) (kk : xX g y d k n Q (pc + 1) ls (.ref b :: st) σ) : xX g y d k n Q pc ls (.int i :: .ref a :: st) σ := by
  intro p R e' s m args below meth c F Qf hr lsA H locs cells slots hl hH hlo hc hs
  obtain ⟨hx, hb, -, hown, hts, -, -, -, hE, -, -⟩ := id F
  obtain ⟨b1, b2, b3⟩ := xH_cell hH (a := a) (by rw [hk]; exact Nat.le_of_ble_eq_true rfl)
  have hq := b3.2.2 (by rw [hk])
  rw [hk] at hq
  exact W.aald (v := .ref (xad g b)) (ty := .object "CoinLand$Clause") hx hb hq ((hE.1.2 2 _ rfl).1 len _) rfl (fun q => by cases q) (x_inA hin) (by rw [arrV_read _ _ (x_ltA hin), hP]; rfl) rfl rfl hd (kk p R e' s m args below meth c F Qf hr lsA H locs cells slots hl hH hlo hc hs)
theorem x_aaloadN {g : xG} {y : xY} {d k n : Nat} {Q : Option Value → xS → Prop} {pc : Nat} {ls : List (Option Value)} {st : List Value} {σ : xS} {a len : Nat} {i : Int32} (hd : decode y.2.1 pc = .ok (.aaload, 1)) (hk : σ.2.1 a = (14, len)) (hin : vp_in i len) (hP : σ.2.2.1 a i.toNatClampNeg = none) (kk : xX g y d k n Q (pc + 1) ls (.null :: st) σ) : xX g y d k n Q pc ls (.int i :: .ref a :: st) σ := by
  intro p R e' s m args below meth c F Qf hr lsA H locs cells slots hl hH hlo hc hs
  obtain ⟨hx, hb, -, hown, hts, -, -, -, hE, -, -⟩ := id F
  obtain ⟨b1, b2, b3⟩ := xH_cell hH (a := a) (by rw [hk]; exact Nat.le_of_ble_eq_true rfl)
  have hq := b3.2.2 (by rw [hk])
  rw [hk] at hq
  exact W.aald (v := .null) (ty := .object "CoinLand$Clause") hx hb hq ((hE.1.2 2 _ rfl).1 len _) rfl (fun q => by cases q) (x_inA hin) (by rw [arrV_read _ _ (x_ltA hin), hP]; rfl) rfl rfl hd (kk p R e' s m args below meth c F Qf hr lsA H locs cells slots hl hH hlo hc hs)
theorem x_app {g : xG} {a j : Nat} {locs : List Loc} (hlo : ∀ q ∈ locs, g.2.1.size ≤ q.base) (b1 : 64 ≤ a) : ∀ q ∈ locs ++ [(⟨xad g a, j⟩ : Loc)], g.2.1.size ≤ q.base := by
  intro q hq
  rcases List.mem_append.mp hq with h | h
  · exact hlo q h
  · rw [List.mem_singleton.mp h]; exact xad_ge b1
theorem x_arst {cA : ClassId} {len i : Nat} {f : Nat → Int32} {x : Int32} : (arrV cA len (fun j => Value.int (f j))).setSlot i (.int x) = arrV cA len (fun j => .int (upd f i x j)) := by
  rw [arrV_store]
  congr 1
  funext j
  unfold updV upd
  by_cases h : j = i
  · rw [if_pos h, if_pos h]
  · rw [if_neg h, if_neg h]
theorem xcell_arst {g : xG} {nx : Nat} {sh : Nat → Nat × Nat} {P : Nat → Nat → Option Nat} {I : Nat → Nat → Int32} {H1 : Heap} {a len i ty : Nat} {x : Int32} (hk : sh a = (ty, len)) (ht : ty = 12 ∨ ty = 13) (e : H1[xad g a]? = some ((arrV (g.2.2.2.2.1 ty) len (fun k => Value.int (I a k))).setSlot i (.int x))) : xcell g (nx, sh, P, xup I a i x) a H1 := by
  refine ⟨fun z => ?_, fun _ => ?_, fun z => ?_⟩
  · rw [show ((nx, sh, P, xup I a i x) : xS).2.1 a = sh a from rfl, hk] at z
    have z' : ty < 12 := z
    omega
  · rw [show ((nx, sh, P, xup I a i x) : xS).2.1 a = sh a from rfl, hk]
    show H1[xad g a]? = some (arrV (g.2.2.2.2.1 ty) len (fun k => .int (xup I a i x a k)))
    rw [e, x_arst, xup_s]
  · rw [show ((nx, sh, P, xup I a i x) : xS).2.1 a = sh a from rfl, hk] at z
    have z' : ty = 14 := z
    omega
section XROWS2
variable {g : xG} {y : xY} {d k n : Nat} {Q : Option Value → xS → Prop} {pc : Nat} {ls : List (Option Value)} {st : List Value} {nx : Nat} {sh : Nat → Nat × Nat} {P : Nat → Nat → Option Nat} {I : Nat → Nat → Int32}
theorem x_iastore {a len : Nat} {i x : Int32} (hd : decode y.2.1 pc = .ok (.iastore, 1)) (hk : sh a = (12, len)) (hin : vp_in i len) (kk : xX g y d k n Q (pc + 1) ls st (nx, sh, P, xup I a i.toNatClampNeg x)) : xX g y d k n Q pc ls (.int x :: .int i :: .ref a :: st) (nx, sh, P, I) := by
  intro p R e' s m args below meth c F Qf hr lsA H locs cells slots hl hH hlo hc hs
  obtain ⟨hx, hb, -, hown, hts, -, -, -, hE, -, -⟩ := id F
  obtain ⟨b1, b2, b3⟩ := xH_cell hH (a := a) (by show (sh a).1 < 15; rw [hk]; exact Nat.le_of_ble_eq_true rfl)
  refine W.iast hx hb (xcell_ar b3 hk (Or.inl rfl)) ((hE.1.2 0 _ rfl).1 len _) (fun q => by cases q) (x_inA hin) rfl rfl hd fun H1 e z oq => ?_
  exact kk p R e' s m args below meth c F Qf hr lsA H1 _ cells slots hl (xH_upd (σ := (nx, sh, P, I)) hH (by show (sh a).1 < 15; rw [hk]; exact Nat.le_of_ble_eq_true rfl) rfl rfl (fun b hb => ⟨rfl, xup_n hb⟩) z oq (xcell_arst hk (Or.inl rfl) e)) (x_app hlo b1) hc hs
theorem x_zastore {a len : Nat} {i x : Int32} (hd : decode y.2.1 pc = .ok (.bastore, 1)) (hk : sh a = (13, len)) (hin : vp_in i len) (hn : narrow .boolean (.int x) = .int x) (kk : xX g y d k n Q (pc + 1) ls st (nx, sh, P, xup I a i.toNatClampNeg x)) : xX g y d k n Q pc ls (.int x :: .int i :: .ref a :: st) (nx, sh, P, I) := by
  intro p R e' s m args below meth c F Qf hr lsA H locs cells slots hl hH hlo hc hs
  obtain ⟨hx, hb, -, hown, hts, -, -, -, hE, -, -⟩ := id F
  obtain ⟨b1, b2, b3⟩ := xH_cell hH (a := a) (by show (sh a).1 < 15; rw [hk]; exact Nat.le_of_ble_eq_true rfl)
  refine W.zast hx hb (xcell_ar b3 hk (Or.inr rfl)) ((hE.1.2 1 _ rfl).1 len _) (fun q => by cases q) (x_inA hin) rfl rfl hd fun H1 e z oq => ?_
  rw [hn] at e
  exact kk p R e' s m args below meth c F Qf hr lsA H1 _ cells slots hl (xH_upd (σ := (nx, sh, P, I)) hH (by show (sh a).1 < 15; rw [hk]; exact Nat.le_of_ble_eq_true rfl) rfl rfl (fun b hb => ⟨rfl, xup_n hb⟩) z oq (xcell_arst hk (Or.inr rfl) e)) (x_app hlo b1) hc hs
end XROWS2
/-! what was there before the law: static arrays, texts -/
theorem x_old {g : xG} {σ : xS} {H : Heap} {a : Nat} {cell : Cell} (h : xH g σ H) (ha : g.2.1[a]? = some cell) : H[a]? = some cell := by
  rw [h.2.1 a (Array.getElem?_eq_some_iff.mp ha).1]; exact ha
theorem x_gets0 {g : xG} {y : xY} {d k n : Nat} {Q : Option Value → xS → Prop} {pc : Nat} {ls : List (Option Value)} {st : List Value} {σ : xS} {index : Nat} {C nm ds : String} {v : Value} (hd : decode y.2.1 pc = .ok (.getstatic index, 3)) (hf : xSl y.1.cls index C nm ds) (hZ : ∀ s : State, xE g s → va_Z C nm ds (xcv g v) (fun _ => False) s g.2.1) (kk : xX g y d k n Q (pc + 3) ls (v :: st) σ) : xX g y d k n Q pc ls st σ := by
  intro p R e' s m args below meth c F Qf hr lsA H locs cells slots hl hH hlo hc hs
  obtain ⟨hx, hb, -, hown, hts, -, -, -, hE, -, -⟩ := id F
  have hK := kk p R e' s m args below meth c F Qf hr lsA H locs cells slots hl hH hlo hc hs
  have hZH : va_Z C nm ds (xcv g v) (fun _ => False) s H := (hZ s hE).kept (fun a h1 _ => hH.2.1 a h1)
  rcases hf with h | ⟨host, h⟩
  · obtain ⟨cf, kf, fi, f, a, cell, h1, h2, h3, h4, h5, h6, h7, -⟩ := hZH
    exact W.gets hx hb hown (hts _ h) h1 h2 h3 h4 h5 (fun e => by rw [e] at h6; cases h6) h7 rfl hd hK
  · obtain ⟨cf, kf, fi, f, a, cell, h1, h2, h3, h4, h5, h6, h7, -⟩ := hZH
    exact va_WgetsN hx hb hown (xN_use hE h) h1 h2 h3 h4 h5 (fun e => by rw [e] at h6; cases h6) h7 rfl hd hK
theorem x_getsK {g : xG} {y : xY} {d k n : Nat} {Q : Option Value → xS → Prop} {pc : Nat} {ls : List (Option Value)} {st : List Value} {σ : xS} {index : Nat} (hd : decode y.2.1 pc = .ok (.getstatic index, 3)) (hf : xSl y.1.cls index "CoinLand" "KIND_ABOVE" "[I") (kk : xX g y d k n Q (pc + 3) ls (.ref 0 :: st) σ) : xX g y d k n Q pc ls st σ := x_gets0 (v := .ref 0) hd hf (fun s h => h.2.1) kk
theorem x_getsB {g : xG} {y : xY} {d k n : Nat} {Q : Option Value → xS → Prop} {pc : Nat} {ls : List (Option Value)} {st : List Value} {σ : xS} {index : Nat} (hd : decode y.2.1 pc = .ok (.getstatic index, 3)) (hf : xSl y.1.cls index "CoinLand" "BODIES" "[I") (kk : xX g y d k n Q (pc + 3) ls (.ref 1 :: st) σ) : xX g y d k n Q pc ls st σ := x_gets0 (v := .ref 1) hd hf (fun s h => h.2.2.2.1) kk
theorem x_getsC {g : xG} {y : xY} {d k n : Nat} {Q : Option Value → xS → Prop} {pc : Nat} {ls : List (Option Value)} {st : List Value} {σ : xS} {index : Nat} (hd : decode y.2.1 pc = .ok (.getstatic index, 3)) (hf : xSl y.1.cls index "java/lang/String" "COMPACT_STRINGS" "Z") (kk : xX g y d k n Q (pc + 3) ls (.int 1 :: st) σ) : xX g y d k n Q pc ls st σ := x_gets0 (v := .int 1) hd hf (fun s h => h.2.2.2.2.2.2.1) kk
/-- the old arrays: which, how long, what they hold -/
def xOa (g : xG) (a N : Nat) (ty : FieldType) (f : Nat → Int32) : Prop := ∀ s : State, xE g s → va_T ty (xad g a) N (fun j => .int (f j)) (fun _ => False) s g.2.1
theorem xOa_K {g : xG} : xOa g 0 7 .int (fun j => xKA.getD j 0) := fun s h => h.2.2.1
theorem xOa_B {g : xG} : xOa g 1 21 .int (fun j => xBO.getD j 0) := fun s h => h.2.2.2.2.1
theorem xOa_S {g : xG} : xOa g 2 g.2.2.2.2.2.2.1 .int g.2.2.2.2.2.2.2 := fun s h => h.2.2.2.2.2.1
theorem x_oaload {g : xG} {y : xY} {d k n : Nat} {Q : Option Value → xS → Prop} {pc : Nat} {ls : List (Option Value)} {st : List Value} {σ : xS} {a N : Nat} {f : Nat → Int32} {i : Int32} (hd : decode y.2.1 pc = .ok (.iaload, 1)) (ho : xOa g a N .int f) (hin : vp_in i N) (kk : xX g y d k n Q (pc + 1) ls (.int (f i.toNatClampNeg) :: st) σ) : xX g y d k n Q pc ls (.int i :: .ref a :: st) σ := by
  intro p R e' s m args below meth c F Qf hr lsA H locs cells slots hl hH hlo hc hs
  obtain ⟨hx, hb, -, hown, hts, -, -, -, hE, -, -⟩ := id F
  obtain ⟨cell, h1, h2, h3, h4, h5, h6, -⟩ := ho s hE
  have hlt := x_ltA hin
  exact W.iald (v := .int (f i.toNatClampNeg)) hx hb (x_old hH h1) h2 h3 (fun q => q.elim (fun q => hin (Or.inl q)) (fun q => by omega)) (h6 _ hlt) rfl rfl hd (kk p R e' s m args below meth c F Qf hr lsA H locs cells slots hl hH hlo hc hs)
theorem x_oalen {g : xG} {y : xY} {d k n : Nat} {Q : Option Value → xS → Prop} {pc : Nat} {ls : List (Option Value)} {st : List Value} {σ : xS} {a N : Nat} {ty : FieldType} {f : Nat → Int32} (hd : decode y.2.1 pc = .ok (.arraylength, 1)) (ho : xOa g a N ty f) (kk : xX g y d k n Q (pc + 1) ls (.int (nI N) :: st) σ) : xX g y d k n Q pc ls (.ref a :: st) σ := by
  intro p R e' s m args below meth c F Qf hr lsA H locs cells slots hl hH hlo hc hs
  obtain ⟨hx, hb, -, hown, hts, -, -, -, hE, -, -⟩ := id F
  obtain ⟨cell, h1, h2, h3, h4, h5, h6, -⟩ := ho s hE
  exact W.alen (n := nI N) hx hb (x_old hH h1) h2 h5 rfl rfl hd (kk p R e' s m args below meth c F Qf hr lsA H locs cells slots hl hH hlo hc hs)
/-! ends -/
theorem x_return {g : xG} {y : xY} {d k n : Nat} {Q : Option Value → xS → Prop} {pc : Nat} {ls : List (Option Value)} {σ : xS} (hd : decode y.2.1 pc = .ok (.return_, 1)) (hR : y.2.2.2 = none) (hq : Q none σ) : xX g y d k n Q pc ls [] σ := by
  intro p R e' s m args below meth c F Qf hr lsA H locs cells slots hl hH hlo hc hs
  exact hr none σ H locs cells slots pc lsA .return_ hq hH hlo (by omega) (by omega) ⟨rfl, hR⟩ hd
theorem x_ireturn {g : xG} {y : xY} {d k n : Nat} {Q : Option Value → xS → Prop} {pc : Nat} {ls : List (Option Value)} {σ : xS} {v : Int32} {ty : FieldType} (hd : decode y.2.1 pc = .ok (.ireturn, 1)) (hR : y.2.2.2 = some ty) (hn : narrow ty (.int v) = .int v) (hq : Q (some (.int v)) σ) : xX g y d k n Q pc ls [.int v] σ := by
  intro p R e' s m args below meth c F Qf hr lsA H locs cells slots hl hH hlo hc hs
  exact hr (some (.int v)) σ H locs cells slots pc lsA .ireturn hq hH hlo (by omega) (by omega) ⟨rfl, ty, hR, hn⟩ hd
theorem x_lreturn {g : xG} {y : xY} {d k n : Nat} {Q : Option Value → xS → Prop} {pc : Nat} {ls : List (Option Value)} {σ : xS} {v : Int64} (hd : decode y.2.1 pc = .ok (.lreturn, 1)) (hR : y.2.2.2 = some .long) (hq : Q (some (.long v)) σ) : xX g y d k n Q pc ls [.long v] σ := by
  intro p R e' s m args below meth c F Qf hr lsA H locs cells slots hl hH hlo hc hs
  exact hr (some (.long v)) σ H locs cells slots pc lsA .lreturn hq hH hlo (by omega) (by omega) ⟨rfl, hR⟩ hd
theorem x_areturn {g : xG} {y : xY} {d k n : Nat} {Q : Option Value → xS → Prop} {pc : Nat} {ls : List (Option Value)} {σ : xS} {a : Nat} {ty : FieldType} (hd : decode y.2.1 pc = .ok (.areturn, 1)) (hR : y.2.2.2 = some ty) (ht : (∃ n, ty = .object n) ∨ ∃ t, ty = .array t) (hq : Q (some (.ref a)) σ) : xX g y d k n Q pc ls [.ref a] σ := by
  intro p R e' s m args below meth c F Qf hr lsA H locs cells slots hl hH hlo hc hs
  exact hr (some (.ref a)) σ H locs cells slots pc lsA .areturn hq hH hlo (by omega) (by omega) ⟨rfl, ty, hR, ht⟩ hd
theorem x_areturnN {g : xG} {y : xY} {d k n : Nat} {Q : Option Value → xS → Prop} {pc : Nat} {ls : List (Option Value)} {σ : xS} {ty : FieldType} (hd : decode y.2.1 pc = .ok (.areturn, 1)) (hR : y.2.2.2 = some ty) (ht : (∃ n, ty = .object n) ∨ ∃ t, ty = .array t) (hq : Q (some .null) σ) : xX g y d k n Q pc ls [.null] σ := by
  intro p R e' s m args below meth c F Qf hr lsA H locs cells slots hl hH hlo hc hs
  exact hr (some .null) σ H locs cells slots pc lsA .areturn hq hH hlo (by omega) (by omega) ⟨rfl, ty, hR, ht⟩ hd
/-! contracts -/
def xPc (g : xG) (vs : List Value) (σ : xS) : Array Value → State → Prop := fun v U => v = (vs.map (xcv g)).toArray ∧ xH g σ U.heap ∧ xE g U
def xQc (g : xG) (Q : Option Value → xS → Prop) : Array Value → State → Outcome → State → Prop := fun _ _ o t => ∃ (r : Option Value) (σ' : xS), o = .returned (r.map (xcv g)) ∧ Q r σ' ∧ xH g σ' t.heap
abbrev xws (y : xY) : List Cond := Cond.code y.1 y.2.1 y.2.2.1 y.2.2.2 :: lw_g
abbrev xrm (d k n : Nat) : Room := { frames := d, cells := k, slots := n, locals := 64 * d }
/-- the contract of a method: called with these values in this state it comes to its end with Q -/
def xMet (g : xG) (y : xY) (d k n : Nat) (vs : List Value) (σ : xS) (Q : Option Value → xS → Prop) : Prop := Met g.1 y.1 (xws y) (xrm d k n) (xPc g vs σ) (xQc g Q) k n (fun q => g.2.1.size ≤ q)
theorem xMet.of {g : xG} {y : xY} {d k n : Nat} {vs : List Value} {σ : xS} {Q : Option Value → xS → Prop} (ls : List (Option Value)) (hy : plainFor y.1 = true) (hlen : (lg_sl (vs.map (xcv g))).length ≤ y.2.2.1) (hls : xla g 0 ls = lv_args 0 (vs.map (xcv g))) (h : xX g y d k n Q 0 ls [] σ) : xMet g y d k n vs σ Q := by
  refine va_MetF (cc := y.2.1) (maxL := y.2.2.1) (ret := y.2.2.2) hy rfl ?_
  intro p e s m args below meth c s₁ B hml hv
  obtain ⟨rfl, hH, hE⟩ := hv
  have hts := atoms_spec (ws := xws y) B.pre
  have hl := lv_entry (vs.map (xcv g)) (n := y.2.2.1) hlen
  rw [lg_entry_eq]
  rw [← hls] at hl
  refine h p (xrm d k n) e s m _ below meth c ⟨B.exec, B.bytes, hml, findClass_of_methodNamed B.named, fun w hw => hts w (List.mem_cons_of_mem _ hw), B.returns, B.notSynchronized, (name_of_methodNamed B.named B.method).1, hE, Nat.le_refl _, Nat.le_refl _⟩ _ ?_ _ _ [] 0 0 hl hH (fun q hq => by cases hq) (by show 0 + k ≤ k; omega) (by show 0 + n ≤ n; omega)
  intro r σ' H locs cells slots pc lsA i hq hH' hlo hc hs hri hd
  have hlocks := B.notSynchronized
  refine W.widen (k := k) (n := n) hc hs ?_
  have fin : ∀ (v : Option Value), v = r → ∀ t : State, t.heap = H → s.WarmedH t.vm → xQc g Q (vs.map (xcv g)).toArray s (.returned (v.map (xcv g))) t := fun v hv t ht _ => ⟨r, σ', by rw [hv], hq, by rw [ht]; exact hH'⟩
  match r, hri with
  | none, hri =>
    obtain ⟨rfl, h2⟩ := hri
    exact W.vret B.exec B.bytes (B.returns.trans h2) (fin none rfl) hlo hd
  | some (.int v), hri =>
    obtain ⟨rfl, ty, h2, h3⟩ := hri
    exact W.zret B.exec B.bytes (B.returns.trans h2) h3 (fin (some (.int v)) rfl) hlo hd
  | some (.long v), hri =>
    obtain ⟨rfl, h2⟩ := hri
    exact W.lret B.exec B.bytes (B.returns.trans h2) (fin (some (.long v)) rfl) hlo hd
  | some (.ref v), hri =>
    obtain ⟨rfl, ty, h2, h3⟩ := hri
    exact W.aret B.exec B.bytes (B.returns.trans h2) h3 (Or.inr ⟨_, rfl⟩) (fin (some (.ref v)) rfl) hlo hd
  | some .null, hri =>
    obtain ⟨rfl, ty, h2, h3⟩ := hri
    exact W.aret B.exec B.bytes (B.returns.trans h2) h3 (Or.inl rfl) (fin (some .null) rfl) hlo hd
/-! calls -/
theorem xE.mv {g : xG} {s U : State} (hal : s.vm.Alike U.vm) (hR : ∀ (own : String) (k : Nat) (tx : String) (a : Nat), vk_R own k tx a s → vk_R own k tx a U) (hN : ∀ w ∈ lw_n, va_Nw w s → va_Nw w U) (h : xE g s) : xE g U := by
  obtain ⟨h1, h2, h3, h4, h5, h6, h7, ⟨h8, h8b⟩, ⟨r1, r2, r3, r4, r5, r6, r7, r8, r9, r10, r11, r12⟩, h9, h10⟩ := h
  exact ⟨h1.moved hal, h2.moved hal, h3.moved hal, h4.moved hal, h5.moved hal, h6.moved hal, h7.moved hal, ⟨h8.moved hal, h8b.imp (fun z => z.moved hal) (fun z => z.moved hal)⟩, ⟨hR _ _ _ _ r1, hR _ _ _ _ r2, hR _ _ _ _ r3, hR _ _ _ _ r4, hR _ _ _ _ r5, hR _ _ _ _ r6, hR _ _ _ _ r7, hR _ _ _ _ r8, hR _ _ _ _ r9, hR _ _ _ _ r10, hR _ _ _ _ r11, hR _ _ _ _ r12⟩, h9.moved hal, fun w hw => hN w hw (h10 w hw)⟩
theorem xGI {ws : List Cond} (h : ∀ w ∈ ws, w ∈ lw_g) : GoodIn lw_g ws := fun w hw => ⟨h w hw, good_of_word (List.mem_filter.mp (h w hw)).2⟩
def xpush : List Value → List Value → List Value
  | [], r => r
  | a :: l, r => xpush l (a :: r)
def xret : Option Value → List Value → List Value
  | none, r => r
  | some v, r => v :: r
theorem xpush_map {g : xG} : ∀ (l r : List Value), (xpush l r).map (xcv g) = (l.map (xcv g)).reverse ++ r.map (xcv g)
  | [], r => rfl
  | a :: l, r => by simp only [xpush]; rw [xpush_map l (a :: r)]; simp
theorem xret_map {g : xG} (v : Option Value) (r : List Value) : (xret v r).map (xcv g) = (v.map (xcv g)).toList ++ r.map (xcv g) := by cases v <;> rfl
theorem xcats {g : xG} (l : List Value) : ((l.map (xcv g)).map fun v => v.category).sum = (l.map fun v => v.category).sum := by
  rw [List.map_map]
  congr 1
  exact List.map_congr_left (fun v _ => xcv_cat)
theorem xws_in {yc : xY} {na : Nat} (h : xLc yc na) : ∀ w ∈ xws yc, w ∈ lw_g := fun w hw => by
  rcases List.mem_cons.mp hw with rfl | hw
  · exact h.1
  · exact hw
theorem xRoom {d d1 ml : Nat} {R : Room} (h : d1 + 1 ≤ d) (hm : ml ≤ 45) (h1 : d ≤ R.frames) (h2 : 64 * d ≤ R.locals) (k n : Nat) : (xrm d1 k n).frames + 1 ≤ R.frames ∧ 8 + (ml + 11) + (xrm d1 k n).locals ≤ R.locals := ⟨Nat.le_trans h h1, Nat.le_trans (by show 8 + (ml + 11) + 64 * d1 ≤ 64 * d; omega) h2⟩
theorem xPc_blind {g : xG} {vs : List Value} {σ : xS} : FrameBlind (xPc g vs σ) := fun a U gg mk q => by
  obtain ⟨q1, q2, q3⟩ := q
  exact ⟨q1, q2, xE.mv (s := U) (U := U.calling gg mk a) (Vm.Alike.refl U.vm) (fun own k tx a h => vk_R.same rfl h) (fun w hw h => va_Nw.same (u := U) (U := U.calling gg mk a) (xN_on hw) rfl h) q3⟩
theorem xPc_at {g : xG} {vs : List Value} {σ : xS} {s : State} {H : Heap} (hE : xE g s) (hH : xH g σ H) : ∀ U : State, U.heap = H → s.WarmedH U.vm → xPc g vs σ (vs.map (xcv g)).toArray U := fun U hU hW => ⟨rfl, by rw [hU]; exact hH, xE.mv hW.alike (fun own k tx a h => h.warm hW) (fun w hw h => xN_warm hw hW h) hE⟩
/-- behind a call -/
theorem x_behind {g : xG} {y : xY} {d k n k1 n1 k2 n2 : Nat} {Q Qc : Option Value → xS → Prop} {pc : Nat} {ls : List (Option Value)} {rest : List Value} {p : Program} {R : Room} {e : Env} {s : State} {m : MethodId} {args a : Array Value} {below : List Frame} {meth : Method} {c : Code} {Qf : State → Prop} {lsA : Array Slot} {H : Heap} {locs : List Loc} {cells slots : Nat} {st0 : List Value} (F : xFr g y d p R s m args meth c) (hr : ∀ (r : Option Value) (σ' : xS) (H : Heap) (locs : List Loc) (cells slots pc : Nat) (lsA : Array Slot) (i : Instr), Q r σ' → xH g σ' H → (∀ q ∈ locs, g.2.1.size ≤ q.base) → cells ≤ R.cells → slots ≤ R.slots → xRi y.2.2.2 r i → decode y.2.1 pc = .ok (i, 1) → W p g.1 e R s m args below meth c H locs cells slots Qf (F0 m pc lsA (r.map (xcv g)).toList))
    (hl : lv_has lsA y.2.2.1 (xla g 0 ls)) (hlo : ∀ q ∈ locs, g.2.1.size ≤ q.base) (hc : cells + k ≤ R.cells) (hs : slots + n ≤ R.slots) (hk : k1 + k2 ≤ k) (hn : n1 + n2 ≤ n)
    (hrun : va_Run p g.1 e R s m args below meth c H locs cells slots k1 n1 (F0 m pc lsA st0) (rest.map (xcv g)) (xQc g Qc a) (fun q => g.2.1.size ≤ q)) (kk : ∀ (r : Option Value) (σ' : xS), Qc r σ' → xX g y d k2 n2 Q (pc + 3) ls (xret r rest) σ') : W p g.1 e R s m args below meth c H locs cells slots Qf (F0 m pc lsA st0) := by
  intro T hT X
  obtain ⟨v, st₀, t, T', L, h0, X', hL, e1, e2, ⟨r, σ', hv, hq, hH'⟩, st⟩ := hrun T hT X
  cases hv
  have h9 := kk r σ' hq p R e s m args below meth c F Qf hr lsA T'.heap (locs ++ L) (cells + k1) (slots + n1) hl (by rw [e1]; exact hH') (fun q hq => by
    rcases List.mem_append.mp hq with h | h
    · exact hlo q h
    · exact hL q h) (by omega) (by omega) T' rfl X'
  rw [xret_map] at h9
  obtain ⟨t2, a1, b1⟩ := h9
  exact ⟨t2, st t2 a1, b1⟩
theorem x_callS {g : xG} {y : xY} {d k n : Nat} {Q : Option Value → xS → Prop} {pc : Nat} {ls : List (Option Value)} {st : List Value} {σ : xS} {yc : xY} {d1 k1 k2 n1 n2 na index : Nat} {As rest : List Value} {Qc : Option Value → xS → Prop} (hd : decode y.2.1 pc = .ok (.invokestatic index, 3)) (hL : xLs y.1.cls index yc na) (hM : xMet g yc d1 k1 n1 As σ Qc) (hst : xpush As rest = st) (hna : As.length = na) (hdd : d1 + 1 ≤ d) (hrest : (rest.map fun v => v.category).sum ≤ 8) (hk : k1 + k2 ≤ k) (hn : n1 + n2 ≤ n) (kk : ∀ (r : Option Value) (σ' : xS), Qc r σ' → xX g y d k2 n2 Q (pc + 3) ls (xret r rest) σ') : xX g y d k n Q pc ls st σ := by
  intro p R e s m args below meth c F Qf hr lsA H locs cells slots hl hH hlo hc hs
  obtain ⟨hx, hb, hml, hown, hts, -, -, -, hE, hR1, hR2⟩ := id F
  subst hst
  obtain ⟨L1, L2, L3⟩ := hL
  refine x_behind (a := (As.map (xcv g)).toArray) (Qc := Qc) (rest := rest) F hr hl hlo hc hs hk hn ?_ kk
  refine va_runS (As := As.map (xcv g)) ⟨hx, hb, hml, hown, hts⟩ hM (va_cwS na hts (xGI fun w hw => ?_) rfl rfl rfl L1.2.2.1 (xRoom hdd L1.2.2.2 hR1 hR2 _ _)) ⟨xPc_blind, xPc_at hE hH⟩ rfl (by rw [List.length_map]; exact hna) hl.1 (xpush_map As rest) (lv_room (by rw [xcats]; exact hrest)) hd ⟨by omega, by omega⟩
  unfold va_wsS at hw
  rcases List.mem_append.mp hw with hw | hw
  · rcases List.mem_cons.mp hw with rfl | hw
    · exact L2
    · rcases List.mem_cons.mp hw with rfl | hw
      · exact L3
      · rw [List.mem_singleton.mp hw]; exact L1.2.1
  · exact xws_in L1 w hw
theorem x_callV {g : xG} {y : xY} {d k n : Nat} {Q : Option Value → xS → Prop} {pc : Nat} {ls : List (Option Value)} {st : List Value} {σ : xS} {yc : xY} {d1 k1 k2 n1 n2 na index b ci : Nat} {As rest : List Value} {Qc : Option Value → xS → Prop} (hd : decode y.2.1 pc = .ok (.invokevirtual index, 3)) (hL : xLv y.1.cls index yc na) (hM : xMet g yc d1 k1 n1 (.ref b :: As) σ Qc) (hst : xpush As (.ref b :: rest) = st) (hna : As.length = na) (hkb : (σ.2.1 b).1 = ci) (hcl : vwCl[ci]?.map (·.1) = some yc.1.cls) (hdd : d1 + 1 ≤ d) (hrest : (rest.map fun v => v.category).sum ≤ 8) (hk : k1 + k2 ≤ k) (hn : n1 + n2 ≤ n) (kk : ∀ (r : Option Value) (σ' : xS), Qc r σ' → xX g y d k2 n2 Q (pc + 3) ls (xret r rest) σ') : xX g y d k n Q pc ls st σ := by
  intro p R e s m args below meth c F Qf hr lsA H locs cells slots hl hH hlo hc hs
  obtain ⟨hx, hb, hml, hown, hts, -, -, -, hE, hR1, hR2⟩ := id F
  subst hst
  obtain ⟨L1, L2, L3, L4⟩ := hL
  cases hvc : vwCl[ci]? with
  | none => rw [hvc] at hcl; cases hcl
  | some r =>
  rw [hvc] at hcl
  have hcl : r.1 = yc.1.cls := Option.some.inj hcl
  have hci := xcl_lt hvc
  obtain ⟨b1, b2, b3⟩ := xH_cell hH (a := b) (by omega)
  obtain ⟨cell, q1, q2, q3, q4⟩ := xcell_ob b3 hkb hvc hci
  have hcA := (hE.1.1 ci r hvc).2
  refine x_behind (a := (Value.ref (xad g b) :: As.map (xcv g)).toArray) (Qc := Qc) (rest := rest) F hr hl hlo hc hs hk hn ?_ kk
  refine va_runV (C := yc.1.cls) (b := xad g b) (As := As.map (xcv g)) ⟨hx, hb, hml, hown, hts⟩ hM (cwV na hts (xGI fun w hw => ?_) rfl rfl rfl ⟨rfl, L1.2.2.1⟩ (xRoom hdd L1.2.2.2 hR1 hR2 _ _)) ⟨xPc_blind, ⟨cell, q1, by rw [q3]; rfl, by rw [q2, ← hcl]; exact hcA.1⟩, xPc_at (vs := .ref b :: As) hE hH⟩ rfl (by rw [List.length_map]; exact hna) hl.1 (by show (xpush As (.ref b :: rest)).map (xcv g) = _; rw [xpush_map]; rfl) (lv_room (by rw [xcats]; exact hrest)) hd ⟨by omega, by omega⟩
  unfold wsV at hw
  rcases List.mem_append.mp hw with hw | hw
  · rcases List.mem_cons.mp hw with rfl | hw
    · exact L2
    · rcases List.mem_cons.mp hw with rfl | hw
      · exact L3
      · rcases List.mem_cons.mp hw with rfl | hw
        · exact L4
        · rw [List.mem_singleton.mp hw]; exact L1.2.1
  · exact xws_in L1 w hw
theorem x_callI {g : xG} {y : xY} {d k n : Nat} {Q : Option Value → xS → Prop} {pc : Nat} {ls : List (Option Value)} {st : List Value} {σ : xS} {yc : xY} {d1 k1 k2 n1 n2 na index b : Nat} {As rest : List Value} {Qc : Option Value → xS → Prop} (hd : decode y.2.1 pc = .ok (.invokespecial index, 3)) (hL : xLi y.1.cls index yc na) (hM : xMet g yc d1 k1 n1 (.ref b :: As) σ Qc) (hst : xpush As (.ref b :: rest) = st) (hna : As.length = na) (hdd : d1 + 1 ≤ d) (hrest : (rest.map fun v => v.category).sum ≤ 8) (hk : k1 + k2 ≤ k) (hn : n1 + n2 ≤ n) (kk : ∀ (r : Option Value) (σ' : xS), Qc r σ' → xX g y d k2 n2 Q (pc + 3) ls (xret r rest) σ') : xX g y d k n Q pc ls st σ := by
  intro p R e s m args below meth c F Qf hr lsA H locs cells slots hl hH hlo hc hs
  obtain ⟨hx, hb, hml, hown, hts, -, -, -, hE, hR1, hR2⟩ := id F
  subst hst
  obtain ⟨L1, L2, L3, L4, L5⟩ := hL
  refine x_behind (a := (Value.ref (xad g b) :: As.map (xcv g)).toArray) (Qc := Qc) (rest := rest) F hr hl hlo hc hs hk hn ?_ kk
  have hw0 : xws yc = Cond.code yc.1 yc.2.1 yc.2.2.1 none :: lw_g := by unfold xws; rw [L3]
  have hcode : Cond.code yc.1 yc.2.1 yc.2.2.1 none ∈ lw_g := by have := L1.1; rw [L3] at this; exact this
  have hst2 : (xpush As (.ref b :: rest)).map (xcv g) = (As.map (xcv g)).reverse ++ Value.ref (xad g b) :: rest.map (xcv g) := by rw [xpush_map]; rfl
  have hG : GoodIn lw_g (xws yc) := xGI fun w hw => xws_in L1 w hw
  rcases L4 with L4 | ⟨host, L4⟩
  · exact va_runI (b := xad g b) (As := As.map (xcv g)) ⟨hx, hb, hml, hown, hts⟩ hM (cwI na hts hG hw0 rfl rfl (hts _ L1.2.1) (hts _ L4) (hts _ L5) L2 L1.2.2.1 (xRoom hdd L1.2.2.2 hR1 hR2 _ _)) ⟨xPc_blind, xPc_at (vs := .ref b :: As) hE hH⟩ rfl (by rw [List.length_map]; exact hna) hl.1 hst2 (lv_room (by rw [xcats]; exact hrest)) hd ⟨by omega, by omega⟩
  · exact va_runIN (b := xad g b) (As := As.map (xcv g)) ⟨hx, hb, hml, hown, hts⟩ hM ⟨va_cnB na hts hG hw0 rfl rfl (xE_n hE L4) (hts _ L1.2.1) L1.2.2.1 (xRoom hdd L1.2.2.2 hR1 hR2 _ _), L2, hts _ L5⟩ ⟨xPc_blind, xPc_at (vs := .ref b :: As) hE hH⟩ rfl (by rw [List.length_map]; exact hna) hl.1 hst2 (lv_room (by rw [xcats]; exact hrest)) hd ⟨by omega, by omega⟩
