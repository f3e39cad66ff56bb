/-! the literals: rows -/
theorem xOa_T {g : xG} {i : Nat} (hi : i < 10) : xOa g (24 + i) (xTl.getD i 0) .byte (fun j => (xTx.getD i []).getD j 0) := by
  intro s h
  have h1 := (h.2.2.2.2.2.2.2.1.1.1 i hi).2.2.2
  have e : xad g (24 + i) = g.2.2.2.2.2.1 (24 + i) := by unfold xad; rw [if_pos (by omega)]
  rw [e]
  exact h1
theorem x_obaload {g : xG} {y : xY} {d k n : Nat} {Q : Option Value → xS → Prop} {pc : Nat} {ls : List (Option Value)} {st : List Value} {σ : xS} {a N : Nat} {f : Nat → Int32} {i : Int32} (hd : decode y.2.1 pc = .ok (.baload, 1)) (ho : xOa g a N .byte f) (hin : vp_in i N) (kk : xX g y d k n Q (pc + 1) ls (.int (f i.toNatClampNeg) :: st) σ) : xX g y d k n Q pc ls (.int i :: .ref a :: st) σ := by
  intro p R e' s m args below meth c F Qf hr lsA H locs cells slots hl hH hlo hc hs
  obtain ⟨hx, hb, -, hown, hts, -, -, -, hE, -, -⟩ := id F
  obtain ⟨cell, h1, h2, h3, h4, h5, h6, -⟩ := ho s hE
  have hlt := x_ltA hin
  exact W.bald (v := .int (f i.toNatClampNeg)) hx hb (x_old hH h1) h2 h3 (fun q => q.elim (fun q => hin (Or.inl q)) (fun q => by omega)) (h6 _ hlt) rfl rfl hd (kk p R e' s m args below meth c F Qf hr lsA H locs cells slots hl hH hlo hc hs)
theorem x_sget {g : xG} {y : xY} {d k n : Nat} {Q : Option Value → xS → Prop} {pc : Nat} {ls : List (Option Value)} {st : List Value} {σ : xS} {a index : Nat} {nm ds : String} {v : Value} (hd : decode y.2.1 pc = .ok (.getfield index, 3)) (hf : xSl y.1.cls index "java/lang/String" nm ds) (hO : ∀ s : State, xE g s → va_OF "java/lang/String" nm ds (xcv g v) (xad g a) (fun _ => False) s g.2.1) (kk : xX g y d k n Q (pc + 3) ls (v :: st) σ) : xX g y d k n Q pc ls (.ref a :: st) σ := by
  intro p R e' s m args below meth c F Qf hr lsA H locs cells slots hl hH hlo hc hs
  obtain ⟨hx, hb, -, hown, hts, -, -, -, hE, -, -⟩ := id F
  have hK := kk p R e' s m args below meth c F Qf hr lsA H locs cells slots hl hH hlo hc hs
  obtain ⟨cf, kf, fi, f, cell, h1, h2, h3, h4, h5, -⟩ := (hO s hE).kept (fun a h1 _ => hH.2.1 a h1)
  rcases hf with h | ⟨host, h⟩
  · exact W.getf hx hb hown (hts _ h) h1 h2 h3 h4 h5 rfl rfl hd hK
  · exact va_Wgetf hx hb hown (xN_use hE h) h1 h2 h3 h4 h5 rfl rfl hd hK
theorem xad_o {g : xG} {a : Nat} (h : a < 64) : xad g a = g.2.2.2.2.2.1 a := by unfold xad; rw [if_pos h]
theorem xOs_c {g : xG} {i : Nat} (hi : i < 10) : ∀ s : State, xE g s → va_OF "java/lang/String" "coder" "B" (xcv g (.int 0)) (xad g (8 + i)) (fun _ => False) s g.2.1 := fun s h => by rw [xad_o (by omega)]; exact (h.2.2.2.2.2.2.2.1.1.1 i hi).2.1
theorem xOs_v {g : xG} {i : Nat} (hi : i < 10) : ∀ s : State, xE g s → va_OF "java/lang/String" "value" "[B" (xcv g (.ref (24 + i))) (xad g (8 + i)) (fun _ => False) s g.2.1 := fun s h => by
  rw [xad_o (by omega), show xcv g (.ref (24 + i)) = .ref (g.2.2.2.2.2.1 (24 + i)) from congrArg Value.ref (xad_o (by omega))]
  exact (h.2.2.2.2.2.2.2.1.1.1 i hi).2.2.1
theorem xOs_o {g : xG} {i : Nat} (hi : i < 10) : ∀ s : State, xE g s → va_O "java/lang/String" (xad g (8 + i)) (fun _ => False) s g.2.1 := fun s h => by rw [xad_o (by omega)]; exact (h.2.2.2.2.2.2.2.1.1.1 i hi).1
theorem x_getsF {g : xG} {y : xY} {d k n : Nat} {Q : Option Value → xS → Prop} {pc : Nat} {ls : List (Option Value)} {st : List Value} {σ : xS} {index : Nat} (hd : decode y.2.1 pc = .ok (.getstatic index, 3)) (hf : xSl y.1.cls index "jdk/internal/util/Preconditions" "SIOOBE_FORMATTER" "Ljava/util/function/BiFunction;") (k0 : xX g y d k n Q (pc + 3) ls (.null :: st) σ) (kk : xX g y d k n Q (pc + 3) ls (.ref 3 :: st) σ) : xX g y d k n Q pc ls st σ := by
  intro p R e' s m args below meth c F Qf hr lsA H locs cells slots hl hH hlo hc hs
  obtain ⟨hx, hb, -, hown, hts, -, -, -, hE, -, -⟩ := id F
  have key : ∀ v : Value, va_Z "jdk/internal/util/Preconditions" "SIOOBE_FORMATTER" "Ljava/util/function/BiFunction;" (xcv g v) (fun _ => False) s g.2.1 → xX g y d k n Q (pc + 3) ls (v :: st) σ → W p g.1 e' R s m args below meth c H locs cells slots Qf (F0 m pc lsA (st.map (xcv g))) := fun v hZ kv => by
    have hK := kv p R e' s m args below meth c F Qf hr lsA H locs cells slots hl hH hlo hc hs
    have hZH := hZ.kept (H1 := H) (fun a h1 _ => hH.2.1 a h1)
    rcases hf with h | ⟨host, h⟩
    · obtain ⟨cf, kf, fi, f, a, cell, h1, h2, h3, h4, h5, h6, h7, -⟩ := hZH
      exact W.gets hx hb hown (hts _ h) h1 h2 h3 h4 h5 (fun e => by rw [e] at h6; cases h6) h7 rfl hd hK
    · obtain ⟨cf, kf, fi, f, a, cell, h1, h2, h3, h4, h5, h6, h7, -⟩ := hZH
      exact va_WgetsN hx hb hown (xN_use hE h) h1 h2 h3 h4 h5 (fun e => by rw [e] at h6; cases h6) h7 rfl hd hK
  rcases hE.2.2.2.2.2.2.2.1.2 with hz | hz
  · exact key .null hz k0
  · exact key (.ref 3) hz kk

theorem S_J0_9 : xSl RJ0 9 "java/lang/String" "value" "[B" := Or.inl (xin 1603 (by decide +kernel) rfl)
theorem S_J0_15 : xSl RJ0 15 "java/lang/String" "coder" "B" := Or.inl (xin 1604 (by decide +kernel) rfl)
theorem S_J0_1053 : xSl RJ0 1053 "jdk/internal/util/Preconditions" "SIOOBE_FORMATTER" "Ljava/util/function/BiFunction;" := Or.inl (xin 467 (by decide +kernel) rfl)
theorem x_callVs {g : xG} {y : xY} {d k n : Nat} {Q : Option Value → xS → Prop} {pc : Nat} {ls : List (Option Value)} {st : List Value} {σ : xS} {yc : xY} {d1 k1 k2 n1 n2 na index b : Nat} {As rest : List Value} {Qc : Option Value → xS → Prop} (hd : decode y.2.1 pc = .ok (.invokevirtual index, 3)) (hL : xLv y.1.cls index yc na) (hM : xMet g yc d1 k1 n1 (.ref b :: As) σ Qc) (hst : xpush As (.ref b :: rest) = st) (hna : As.length = na) (hkb : ∀ s : State, xE g s → va_O "java/lang/String" (xad g b) (fun _ => False) s g.2.1) (hcl : yc.1.cls = "java/lang/String") (hdd : d1 + 1 ≤ d) (hrest : (rest.map fun v => v.category).sum ≤ 8) (hk : k1 + k2 ≤ k) (hn : n1 + n2 ≤ n) (kk : ∀ (r : Option Value) (σ' : xS), Qc r σ' → xX g y d k2 n2 Q (pc + 3) ls (xret r rest) σ') : xX g y d k n Q pc ls st σ := by
  intro p R e s m args below meth c F Qf hr lsA H locs cells slots hl hH hlo hc hs
  obtain ⟨hx, hb, hml, hown, hts, -, -, -, hE, hR1, hR2⟩ := id F
  subst hst
  obtain ⟨L1, L2, L3, L4⟩ := hL
  obtain ⟨cell, q1, q2, q3, -⟩ := (hkb s hE).kept (fun a h1 _ => hH.2.1 a h1)
  refine x_behind (a := (Value.ref (xad g b) :: As.map (xcv g)).toArray) (Qc := Qc) (rest := rest) F hr hl hlo hc hs hk hn ?_ kk
  refine va_runV (C := yc.1.cls) (b := xad g b) (As := As.map (xcv g)) ⟨hx, hb, hml, hown, hts⟩ hM (cwV na hts (xGI fun w hw => ?_) rfl rfl rfl ⟨rfl, L1.2.2.1⟩ (xRoom hdd L1.2.2.2 hR1 hR2 _ _)) ⟨xPc_blind, ⟨cell, q1, q2, by rw [hcl]; exact q3⟩, xPc_at (vs := .ref b :: As) hE hH⟩ rfl (by rw [List.length_map]; exact hna) hl.1 (by show (xpush As (.ref b :: rest)).map (xcv g) = _; rw [xpush_map]; rfl) (lv_room (by rw [xcats]; exact hrest)) hd ⟨by omega, by omega⟩
  unfold wsV at hw
  rcases List.mem_append.mp hw with hw | hw
  · rcases List.mem_cons.mp hw with rfl | hw
    · exact L2
    · rcases List.mem_cons.mp hw with rfl | hw
      · exact L3
      · rcases List.mem_cons.mp hw with rfl | hw
        · exact L4
        · rw [List.mem_singleton.mp hw]; exact L1.2.1
  · exact xws_in L1 w hw
