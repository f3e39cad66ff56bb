theorem x_callSN {g : xG} {y : xY} {d k n : Nat} {Q : Option Value → xS → Prop} {pc : Nat} {ls : List (Option Value)} {st : List Value} {σ : xS} {yc : xY} {d1 k1 k2 n1 n2 na index : Nat} {As rest : List Value} {Qc : Option Value → xS → Prop} (hd : decode y.2.1 pc = .ok (.invokestatic index, 3)) (hL : xLsN y.1.cls index yc na) (hM : xMet g yc d1 k1 n1 As σ Qc) (hst : xpush As rest = st) (hna : As.length = na) (hdd : d1 + 1 ≤ d) (hrest : (rest.map fun v => v.category).sum ≤ 8) (hk : k1 + k2 ≤ k) (hn : n1 + n2 ≤ n) (kk : ∀ (r : Option Value) (σ' : xS), Qc r σ' → xX g y d k2 n2 Q (pc + 3) ls (xret r rest) σ') : xX g y d k n Q pc ls st σ := by
  intro p R e s m args below meth c F Qf hr lsA H locs cells slots hl hH hlo hc hs
  obtain ⟨hx, hb, hml, hown, hts, -, -, -, hE, hR1, hR2⟩ := id F
  subst hst
  obtain ⟨L1, ⟨host, L2⟩, L3⟩ := hL
  refine x_behind (a := (As.map (xcv g)).toArray) (Qc := Qc) (rest := rest) F hr hl hlo hc hs hk hn ?_ kk
  exact va_runSN (As := As.map (xcv g)) ⟨hx, hb, hml, hown, hts⟩ hM ⟨va_cnB na hts (xGI fun w hw => xws_in L1 w hw) rfl rfl rfl (xE_n hE L2) (hts _ L1.2.1) L1.2.2.1 (xRoom hdd L1.2.2.2 hR1 hR2 _ _), hts _ L3, trivial⟩ ⟨xPc_blind, xPc_at hE hH⟩ rfl (by rw [List.length_map]; exact hna) hl.1 (xpush_map As rest) (lv_room (by rw [xcats]; exact hrest)) hd ⟨by omega, by omega⟩
/-! the rows with the state's parts in sight; what is read comes with an equation -/
section YROWS
variable {g : xG} {y : xY} {d k n : Nat} {Q : Option Value → xS → Prop} {pc : Nat} {ls : List (Option Value)} {st : List Value} {nx : Nat} {sh : Nat → Nat × Nat} {P : Nat → Nat → Option Nat} {I : Nat → Nat → Int32}
theorem y_geti {a ci kf index : Nat} {v : Int32} (hd : decode y.2.1 pc = .ok (.getfield index, 3)) (hf : xFl y.1.cls index ci kf) (hk : (sh a).1 = ci) (hR : xR ci kf = false) (hv : I a kf = v) (kk : xX g y d k n Q (pc + 3) ls (.int v :: st) (nx, sh, P, I)) : xX g y d k n Q pc ls (.ref a :: st) (nx, sh, P, I) := by subst hv; exact x_geti hd hf hk hR kk
theorem y_getr {a b ci kf index : Nat} (hd : decode y.2.1 pc = .ok (.getfield index, 3)) (hf : xFl y.1.cls index ci kf) (hk : (sh a).1 = ci) (hR : xR ci kf = true) (hP : P a kf = some b) (kk : xX g y d k n Q (pc + 3) ls (.ref b :: st) (nx, sh, P, I)) : xX g y d k n Q pc ls (.ref a :: st) (nx, sh, P, I) := x_getr hd hf hk hR hP kk
theorem y_getrN {a ci kf index : Nat} (hd : decode y.2.1 pc = .ok (.getfield index, 3)) (hf : xFl y.1.cls index ci kf) (hk : (sh a).1 = ci) (hR : xR ci kf = true) (hP : P a kf = none) (kk : xX g y d k n Q (pc + 3) ls (.null :: st) (nx, sh, P, I)) : xX g y d k n Q pc ls (.ref a :: st) (nx, sh, P, I) := x_getrN hd hf hk hR hP kk
theorem y_iaload {a len : Nat} {i v : Int32} (hd : decode y.2.1 pc = .ok (.iaload, 1)) (hk : sh a = (12, len)) (hin : vp_in i len) (hv : I a i.toNatClampNeg = v) (kk : xX g y d k n Q (pc + 1) ls (.int v :: st) (nx, sh, P, I)) : xX g y d k n Q pc ls (.int i :: .ref a :: st) (nx, sh, P, I) := by subst hv; exact x_iaload hd hk hin kk
theorem y_zaload {a len : Nat} {i v : Int32} (hd : decode y.2.1 pc = .ok (.baload, 1)) (hk : sh a = (13, len)) (hin : vp_in i len) (hv : I a i.toNatClampNeg = v) (kk : xX g y d k n Q (pc + 1) ls (.int v :: st) (nx, sh, P, I)) : xX g y d k n Q pc ls (.int i :: .ref a :: st) (nx, sh, P, I) := by subst hv; exact x_zaload hd hk hin kk
theorem y_alen {a len ty : Nat} (hd : decode y.2.1 pc = .ok (.arraylength, 1)) (hk : sh a = (ty, len)) (ht : ty = 12 ∨ ty = 13 ∨ ty = 14) (kk : xX g y d k n Q (pc + 1) ls (.int (nI len) :: st) (nx, sh, P, I)) : xX g y d k n Q pc ls (.ref a :: st) (nx, sh, P, I) := x_alen hd hk ht kk
theorem y_iastore {a len i : Nat} {j x : Int32} (hd : decode y.2.1 pc = .ok (.iastore, 1)) (hk : sh a = (12, len)) (hin : vp_in j len) (hi : j.toNatClampNeg = i) (kk : xX g y d k n Q (pc + 1) ls st (nx, sh, P, xup I a i x)) : xX g y d k n Q pc ls (.int x :: .int j :: .ref a :: st) (nx, sh, P, I) := x_iastore hd hk hin (hi ▸ kk)
theorem y_zastore {a len i : Nat} {j x : Int32} (hd : decode y.2.1 pc = .ok (.bastore, 1)) (hk : sh a = (13, len)) (hin : vp_in j len) (hn : narrow .boolean (.int x) = .int x) (hi : j.toNatClampNeg = i) (kk : xX g y d k n Q (pc + 1) ls st (nx, sh, P, xup I a i x)) : xX g y d k n Q pc ls (.int x :: .int j :: .ref a :: st) (nx, sh, P, I) := x_zastore hd hk hin hn (hi ▸ kk)
theorem y_aaload {a b len : Nat} {i : Int32} (hd : decode y.2.1 pc = .ok (.aaload, 1)) (hk : sh a = (14, len)) (hin : vp_in i len) (hP : P a i.toNatClampNeg = some b) (kk : xX g y d k n Q (pc + 1) ls (.ref b :: st) (nx, sh, P, I)) : xX g y d k n Q pc ls (.int i :: .ref a :: st) (nx, sh, P, I) := x_aaload hd hk hin hP kk
theorem y_aaloadN {a len : Nat} {i : Int32} (hd : decode y.2.1 pc = .ok (.aaload, 1)) (hk : sh a = (14, len)) (hin : vp_in i len) (hP : P a i.toNatClampNeg = none) (kk : xX g y d k n Q (pc + 1) ls (.null :: st) (nx, sh, P, I)) : xX g y d k n Q pc ls (.int i :: .ref a :: st) (nx, sh, P, I) := x_aaloadN hd hk hin hP kk
end YROWS
theorem nb_int {v : Int32} : narrow .int (.int v) = .int v := rfl
theorem nb_b {c : Prop} [Decidable c] : narrow .boolean (.int (if c then 1 else 0)) = .int (if c then 1 else 0) := by by_cases h : c <;> simp only [h, if_true, if_false] <;> rfl
/-- memory read behind writes -/
theorem xup_at {I : Nat → Nat → Int32} {a k b j : Nat} {v : Int32} : xup I a k v b j = if b = a ∧ j = k then v else I b j := by
  unfold xup upd
  by_cases h : b = a
  · subst h; by_cases h2 : j = k <;> simp [h2]
  · simp [h]
