/-! the literals' bytes: rows -/
theorem xOa_T {g : xG} {i : Nat} (hi : i < 10) : xOa g (24 + i) (xTl.getD i 0) .byte (fun j => (xTx.getD i []).getD j 0) := by
  intro s h
  have h1 := (h.2.2.2.2.2.2.2.1.1 i hi).2.2.2
  have e : xad g (24 + i) = g.2.2.2.2.2.1 (24 + i) := by unfold xad; rw [if_pos (by omega)]
  rw [e]
  exact h1
theorem x_obaload {g : xG} {y : xY} {d k n : Nat} {Q : Option Value → xS → Prop} {pc : Nat} {ls : List (Option Value)} {st : List Value} {σ : xS} {a N : Nat} {f : Nat → Int32} {i : Int32} (hd : decode y.2.1 pc = .ok (.baload, 1)) (ho : xOa g a N .byte f) (hin : vp_in i N) (kk : xX g y d k n Q (pc + 1) ls (.int (f i.toNatClampNeg) :: st) σ) : xX g y d k n Q pc ls (.int i :: .ref a :: st) σ := by
  intro p R e' s m args below meth c F Qf hr lsA H locs cells slots hl hH hlo hc hs
  obtain ⟨hx, hb, -, hown, hts, -, -, -, hE, -, -⟩ := id F
  obtain ⟨cell, h1, h2, h3, h4, h5, h6, -⟩ := ho s hE
  have hlt := x_ltA hin
  exact W.bald (v := .int (f i.toNatClampNeg)) hx hb (x_old hH h1) h2 h3 (fun q => q.elim (fun q => hin (Or.inl q)) (fun q => by omega)) (h6 _ hlt) rfl rfl hd (kk p R e' s m args below meth c F Qf hr lsA H locs cells slots hl hH hlo hc hs)
