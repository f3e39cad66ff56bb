/-! makings -/
theorem xH_nx {g : xG} {σ : xS} {H : Heap} (h : xH g σ H) : 64 ≤ σ.1 ∧ H.size = xad g σ.1 := by
  obtain ⟨h1, h2, -⟩ := h
  have h3 : g.2.1.size ≤ H.size := by
    rcases Nat.eq_zero_or_pos g.2.1.size with z | z
    · omega
    · have hq := h2 (g.2.1.size - 1) (by omega)
      rw [Array.getElem?_eq_getElem (show g.2.1.size - 1 < g.2.1.size by omega)] at hq
      have := (Array.getElem?_eq_some_iff.mp hq).1
      omega
  have h4 : 64 ≤ σ.1 := by omega
  exact ⟨h4, by rw [xad_own h4]; omega⟩
theorem xH_push {g : xG} {nx : Nat} {sh : Nat → Nat × Nat} {P : Nat → Nat → Option Nat} {I : Nat → Nat → Int32} {H H' : Heap} {kd : Nat × Nat} {p : Nat → Option Nat} {i : Nat → Int32} (h : xH g (nx, sh, P, I) H) (z : H'.size = H.size + 1) (o : ∀ q, q < H.size → H'[q]? = H[q]?) (hc : xcell g (nx + 1, va_up sh nx kd, va_up P nx p, va_up I nx i) nx H') : xH g (nx + 1, va_up sh nx kd, va_up P nx p, va_up I nx i) H' := by
  obtain ⟨n1, n2⟩ := xH_nx h
  have n1 : 64 ≤ nx := n1
  have n2 : H.size = xad g nx := n2
  obtain ⟨h1, h2, h3⟩ := h
  have h1 : H.size + 64 = g.2.1.size + nx := h1
  have hn := xad_own (g := g) n1
  refine ⟨by show H'.size + 64 = g.2.1.size + (nx + 1); omega, fun q hq => ?_, fun b hb => ?_⟩
  · rw [o q (by omega)]; exact h2 q hq
  · by_cases hbn : b = nx
    · rw [hbn]; exact ⟨n1, Nat.lt_succ_self nx, hc⟩
    · have e : va_up sh nx kd b = sh b := by unfold va_up; rw [if_neg hbn]
      have hb' : (sh b).1 < 15 := by rw [← e]; exact hb
      obtain ⟨b1, b2, b3⟩ := h3 b hb'
      have b2 : b < nx := b2
      refine ⟨b1, by show b < nx + 1; omega, xcell_kept b3 e (by show va_up P nx p b = P b; unfold va_up; rw [if_neg hbn]) (by show va_up I nx i b = I b; unfold va_up; rw [if_neg hbn]) (o _ ?_)⟩
      have := xad_own (g := g) b1
      omega
section XMAKE
variable {g : xG} {y : xY} {d k n : Nat} {Q : Option Value → xS → Prop} {pc : Nat} {ls : List (Option Value)} {st : List Value} {nx : Nat} {sh : Nat → Nat × Nat} {P : Nat → Nat → Option Nat} {I : Nat → Nat → Int32}
theorem x_new {k2 n2 ci N index : Nat} (hd : decode y.2.1 pc = .ok (.new index, 3)) (hN : xNw y.1.cls index ci N) (hk : 1 + k2 ≤ k) (hn : N + n2 ≤ n) (kk : xX g y d k2 n2 Q (pc + 3) ls (.ref nx :: st) (nx + 1, va_up sh nx (ci, 0), va_up P nx (fun _ => none), va_up I nx (fun _ => 0))) : xX g y d k n Q pc ls st (nx, sh, P, I) := by
  intro p R e' s m args below meth c F Qf hr lsA H locs cells slots hl hH hlo hc hs
  obtain ⟨hx, hb, -, hown, hts, -, -, -, hE, -, -⟩ := id F
  obtain ⟨r, tys, c1, c2, c3, c4, c5, c6, c7, c8⟩ := hN
  have hKn := hE.1.1 ci r c1
  have hci := xcl_lt c1
  subst c2
  obtain ⟨n1, n2'⟩ := xH_nx hH
  refine W.newcK hx hb hown (hts _ c5) (hts _ c6) (hts _ c7) rfl hd (by omega) (by omega) hKn.2.1 n2' fun H1 kC hkC e1 z1 o1 => ?_
  have hob := u_born (args := args) tys hts c3 hKn hkC e1 c4
  refine kk p R e' s m args below meth c F Qf hr lsA H1 locs (cells + 1) (slots + r.2.2) hl (xH_push hH (by rw [z1, n2']) (fun q hq => o1 q (by rw [← n2']; exact hq)) ?_) hlo (by omega) (by omega)
  have es : va_up sh nx (ci, 0) nx = (ci, 0) := by unfold va_up; rw [if_pos rfl]
  refine ⟨fun _ => ⟨r, ?_, ?_⟩, fun z => ?_, fun z => ?_⟩
  · show vwCl[(va_up sh nx (ci, 0) nx).1]? = some r
    rw [es]; exact c1
  · show t_OB (xad g nx) (g.2.2.1 (va_up sh nx (ci, 0) nx).1) r.2.2 (g.2.2.2.1 (va_up sh nx (ci, 0) nx).1) H1 (xfv g _ nx (va_up sh nx (ci, 0) nx).1)
    rw [es]
    refine hob.to (fun j hj => ?_)
    rw [c8 j hj]
    unfold xfv
    show _ = if xR ci j = true then va_rf ((va_up P nx (fun _ => none) nx j).map (xad g)) else Value.int (va_up I nx (fun _ => 0) nx j)
    unfold va_up
    rw [if_pos rfl, if_pos rfl]
    rfl
  · have z : (va_up sh nx (ci, 0) nx).1 = 12 ∨ (va_up sh nx (ci, 0) nx).1 = 13 := z
    rw [es] at z; omega
  · have z : (va_up sh nx (ci, 0) nx).1 = 14 := z
    rw [es] at z; omega
theorem xcell_new {H1 : Heap} {kd len : Nat} (hkd : kd = 12 ∨ kd = 13) (e : H1[xad g nx]? = some (arrV (g.2.2.2.2.1 kd) len (fun _ => .int 0))) : xcell g (nx + 1, va_up sh nx (kd, len), va_up P nx (fun _ => none), va_up I nx (fun _ => 0)) nx H1 := by
  have es : va_up sh nx (kd, len) nx = (kd, len) := by unfold va_up; rw [if_pos rfl]
  refine ⟨fun z => ?_, fun _ => ?_, fun z => ?_⟩
  · have z : (va_up sh nx (kd, len) nx).1 < 12 := z
    rw [es] at z; omega
  · show H1[xad g nx]? = some (arrV (g.2.2.2.2.1 (va_up sh nx (kd, len) nx).1) (va_up sh nx (kd, len) nx).2 (fun k => .int (va_up I nx (fun _ => 0) nx k)))
    rw [es, e]
    unfold va_up
    rw [if_pos rfl]
  · have z : (va_up sh nx (kd, len) nx).1 = 14 := z
    rw [es] at z; omega
theorem x_newI {k2 n2 len : Nat} {v : Int32} (hd : decode y.2.1 pc = .ok (.newarray .int, 2)) (hw : Cond.arrayClass .int ∈ lw_g) (hv : ¬ v < 0) (hlen : v.toNatClampNeg = len) (hsz : len ≤ 100000) (hk : 1 + k2 ≤ k) (hn : len + n2 ≤ n) (kk : xX g y d k2 n2 Q (pc + 2) ls (.ref nx :: st) (nx + 1, va_up sh nx (12, len), va_up P nx (fun _ => none), va_up I nx (fun _ => 0))) : xX g y d k n Q pc ls (.int v :: st) (nx, sh, P, I) := by
  intro p R e' s m args below meth c F Qf hr lsA H locs cells slots hl hH hlo hc hs
  obtain ⟨hx, hb, -, hown, hts, -, -, -, hE, -, -⟩ := id F
  obtain ⟨n1, n2'⟩ := xH_nx hH
  refine va_newaK (atype := .int) hx hb (hts _ hw) rfl hd rfl hv hlen (by show len * 4 ≤ 536870912; omega) (by omega) (by omega) n2' fun H1 cA e1 z1 o1 hAr hNm => ?_
  have hcA : cA = g.2.2.2.2.1 12 := by
    have h2 : s.vm.findClass ("[" ++ (FieldType.int).toString) = some (g.2.2.2.2.1 12) := (hE.1.2 0 _ rfl).2
    exact Option.some.inj (hNm.symm.trans h2)
  refine kk p R e' s m args below meth c F Qf hr lsA H1 locs (cells + 1) (slots + len) hl (xH_push hH (by rw [z1, n2']) (fun q hq => o1 q (by rw [← n2']; exact hq)) (xcell_new (Or.inl rfl) (by rw [← hcA]; exact e1))) hlo (by omega) (by omega)
theorem x_newZ {k2 n2 len : Nat} {v : Int32} (hd : decode y.2.1 pc = .ok (.newarray .boolean, 2)) (hw : Cond.arrayClass .boolean ∈ lw_g) (hv : ¬ v < 0) (hlen : v.toNatClampNeg = len) (hsz : len ≤ 100000) (hk : 1 + k2 ≤ k) (hn : len + n2 ≤ n) (kk : xX g y d k2 n2 Q (pc + 2) ls (.ref nx :: st) (nx + 1, va_up sh nx (13, len), va_up P nx (fun _ => none), va_up I nx (fun _ => 0))) : xX g y d k n Q pc ls (.int v :: st) (nx, sh, P, I) := by
  intro p R e' s m args below meth c F Qf hr lsA H locs cells slots hl hH hlo hc hs
  obtain ⟨hx, hb, -, hown, hts, -, -, -, hE, -, -⟩ := id F
  obtain ⟨n1, n2'⟩ := xH_nx hH
  refine va_newaK (atype := .boolean) hx hb (hts _ hw) rfl hd rfl hv hlen (by show len * 1 ≤ 536870912; omega) (by omega) (by omega) n2' fun H1 cA e1 z1 o1 hAr hNm => ?_
  have hcA : cA = g.2.2.2.2.1 13 := by
    have h2 : s.vm.findClass ("[" ++ (FieldType.boolean).toString) = some (g.2.2.2.2.1 13) := (hE.1.2 1 _ rfl).2
    exact Option.some.inj (hNm.symm.trans h2)
  refine kk p R e' s m args below meth c F Qf hr lsA H1 locs (cells + 1) (slots + len) hl (xH_push hH (by rw [z1, n2']) (fun q hq => o1 q (by rw [← n2']; exact hq)) (xcell_new (Or.inr rfl) (by rw [← hcA]; exact e1))) hlo (by omega) (by omega)
theorem x_anew {k2 n2 len index : Nat} {v : Int32} (hd : decode y.2.1 pc = .ok (.anewarray index, 3)) (hw : Cond.classLink y.1.cls index "CoinLand$Clause" ∈ lw_g) (hv : ¬ v < 0) (hlen : v.toNatClampNeg = len) (hsz : len ≤ 100000) (hk : 1 + k2 ≤ k) (hn : len + n2 ≤ n) (kk : xX g y d k2 n2 Q (pc + 3) ls (.ref nx :: st) (nx + 1, va_up sh nx (14, len), va_up P nx (fun _ => none), va_up I nx (fun _ => 0))) : xX g y d k n Q pc ls (.int v :: st) (nx, sh, P, I) := by
  intro p R e' s m args below meth c F Qf hr lsA H locs cells slots hl hH hlo hc hs
  obtain ⟨hx, hb, -, hown, hts, -, -, -, hE, -, -⟩ := id F
  obtain ⟨n1, n2'⟩ := xH_nx hH
  have hAO := hE.2.2.2.2.2.2.2.2.2.1
  refine W.anew hx hb hown (hts _ hw) (va_AO.use hAO) rfl hd rfl hv (by rw [hlen]; omega) (by omega) (by rw [hlen]; omega) fun cA kA comp f1 f2 f3 f4 => ?_
  have hcA : cA = g.2.2.2.2.1 14 := by
    obtain ⟨_, _, _, _, _, h2⟩ := (hE.1.2 2 _ rfl).2
    exact Option.some.inj (f1.symm.trans h2)
  have e9 : ({ cls := cA, slots := Array.replicate v.toNatClampNeg .null, vm := .none } : Cell) = arrV (g.2.2.2.2.1 14) len (fun _ => .null) := by rw [hlen, hcA, arrV_new]
  rw [e9, hlen]
  have n2'' : H.size = xad g nx := n2'
  have e8 : F0 m (pc + 3) lsA (Value.ref H.size :: List.map (xcv g) st) = F0 m (pc + 3) lsA ((Value.ref nx :: st).map (xcv g)) := by rw [n2'']; rfl
  refine W.eq e8 (kk p R e' s m args below meth c F Qf hr lsA _ locs (cells + 1) (slots + len) hl (xH_push hH (Array.size_push _) (fun q hq => by rw [Array.getElem?_push, if_neg (Nat.ne_of_lt hq)]) ?_) hlo (by omega) (by omega))
  have es : va_up sh nx (14, len) nx = (14, len) := by unfold va_up; rw [if_pos rfl]
  refine ⟨fun z => ?_, fun z => ?_, fun _ => ?_⟩
  · have z : (va_up sh nx (14, len) nx).1 < 12 := z
    rw [es] at z; omega
  · have z : (va_up sh nx (14, len) nx).1 = 12 ∨ (va_up sh nx (14, len) nx).1 = 13 := z
    rw [es] at z; omega
  · show (H.push _)[xad g nx]? = some (arrV (g.2.2.2.2.1 14) (va_up sh nx (14, len) nx).2 (fun k => va_rf ((va_up P nx (fun _ => none) nx k).map (xad g))))
    rw [es, ← n2'', Array.getElem?_push_size]
    unfold va_up
    rw [if_pos rfl]
    rfl
theorem x_aastore {a b len : Nat} {i : Int32} (hd : decode y.2.1 pc = .ok (.aastore, 1)) (hk : sh a = (14, len)) (hkb : (sh b).1 = 2) (hin : vp_in i len) (kk : xX g y d k n Q (pc + 1) ls st (nx, sh, xrp P a i.toNatClampNeg (some b), I)) : xX g y d k n Q pc ls (.ref b :: .int i :: .ref a :: st) (nx, sh, P, I) := by
  intro p R e' s m args below meth c F Qf hr lsA H locs cells slots hl hH hlo hc hs
  obtain ⟨hx, hb, -, hown, hts, -, -, -, hE, -, -⟩ := id F
  obtain ⟨a1, a2, a3⟩ := xH_cell hH (a := a) (by show (sh a).1 < 15; rw [hk]; exact Nat.le_of_ble_eq_true rfl)
  obtain ⟨b1, b2, b3⟩ := xH_cell hH (a := b) (by show (sh b).1 < 15; rw [hkb]; exact Nat.le_of_ble_eq_true rfl)
  obtain ⟨cellB, q1, q2, q3, q4⟩ := xcell_ob b3 hkb (r := (RX2, TX2, 3)) rfl (Nat.le_of_ble_eq_true rfl)
  have hq : H[xad g a]? = some (arrV (g.2.2.2.2.1 14) len (fun k => va_rf ((P a k).map (xad g)))) := by
    have h := a3.2.2 (by show (sh a).1 = 14; rw [hk])
    rw [show ((nx, sh, P, I) : xS).2.1 a = (14, len) from hk] at h
    exact h
  have hcls := (hE.1.1 2 (RX2, TX2, 3) rfl).2
  obtain ⟨kA, comp, k1, k2, k3, -⟩ := (hE.1.2 2 _ rfl).2
  have hcomp : comp = g.2.2.1 2 := Option.some.inj (k3.symm.trans hcls.1)
  subst hcomp
  obtain ⟨kC, hkC, -⟩ := hcls.2
  have hlt := x_ltA hin
  refine W.aast (v := xad g b) hx hb hq (fun q h => by cases h) (fun h => by cases h) k1 k2 rfl hkC ⟨fun q => hin (Or.inl q), by rw [arrV_size]; exact hlt⟩ q1 (fun q h => by rw [q3] at h; cases h) (by rw [q2]; exact hkC) (by rw [q2]; exact va_assign hcls) rfl rfl hd fun H1 e z oq => ?_
  refine kk p R e' s m args below meth c F Qf hr lsA H1 _ cells slots hl (xH_upd (σ := (nx, sh, P, I)) hH (by show (sh a).1 < 15; rw [hk]; exact Nat.le_of_ble_eq_true rfl) rfl rfl (fun b hb => ⟨xrp_n hb, rfl⟩) z oq ?_) (x_app hlo a1) hc hs
  refine ⟨fun z => ?_, fun z => ?_, fun _ => ?_⟩
  · have z : (sh a).1 < 12 := z
    rw [hk] at z; exact absurd z (by show ¬ 14 < 12; omega)
  · have z : (sh a).1 = 12 ∨ (sh a).1 = 13 := z
    rw [hk] at z; exact absurd z (by show ¬ (14 = 12 ∨ 14 = 13); omega)
  · show H1[xad g a]? = some (arrV (g.2.2.2.2.1 14) (sh a).2 (fun k => va_rf ((xrp P a i.toNatClampNeg (some b) a k).map (xad g))))
    rw [e, hk, arrV_store, xrp_s]
    congr 2
    funext q
    unfold updV va_up
    by_cases hq : q = i.toNatClampNeg
    · rw [if_pos hq, if_pos hq]; rfl
    · rw [if_neg hq, if_neg hq]
/-- System.arraycopy between two different arrays of ints -/
theorem x_copy {a b la lb index : Nat} {sp dp m0 : Int32} (hd : decode y.2.1 pc = .ok (.invokestatic index, 3)) (hlink : Cond.methodLink y.1.cls index arraycopyName ∈ lw_g) (hnat : Cond.native arraycopyName ∈ lw_g) (hstat : Cond.static arraycopyName ∈ lw_g) (hini : Cond.initialized "java/lang/System" ∈ lw_g) (ha : sh a = (12, la)) (hb0 : sh b = (12, lb)) (h1 : ¬ sp < 0) (h2 : ¬ dp < 0) (h3 : ¬ m0 < 0) (h4 : sp.toNatClampNeg + m0.toNatClampNeg ≤ la) (h5 : dp.toNatClampNeg + m0.toNatClampNeg ≤ lb) (hdp : 1 ≤ d) (hrest : (st.map fun v => v.category).sum ≤ 8)
    (kk : xX g y d k n Q (pc + 3) ls st (nx, sh, P, fun q => if q = b then va_cpy (I a) (I b) sp.toNatClampNeg dp.toNatClampNeg m0.toNatClampNeg else I q)) : xX g y d k n Q pc ls (.int m0 :: .int dp :: .ref b :: .int sp :: .ref a :: st) (nx, sh, P, I) := by
  intro p R e' s m args below meth c F Qf hr lsA H locs cells slots hl hH hlo hc hs
  obtain ⟨hx, hb, hml, hown, hts, -, -, -, hE, hR1, hR2⟩ := id F
  obtain ⟨a1, a2, a3⟩ := xH_cell hH (a := a) (by show (sh a).1 < 15; rw [ha]; exact Nat.le_of_ble_eq_true rfl)
  obtain ⟨b1, b2, b3⟩ := xH_cell hH (a := b) (by show (sh b).1 < 15; rw [hb0]; exact Nat.le_of_ble_eq_true rfl)
  have qa := xcell_ar b3 hb0 (Or.inl rfl)
  have qs := xcell_ar a3 ha (Or.inl rfl)
  have nn : ∀ z : Int32, ¬ z < 0 → z.toInt = (z.toNatClampNeg : Int) := fun z hz => by
    have hz0 : (0 : Int) ≤ z.toInt := by simpa using Int32.le_iff_toInt_le.mp (Int32.not_lt.mp hz)
    show z.toInt = ((z.toInt.toNat : Nat) : Int)
    omega
  intro T hT X
  obtain ⟨-, k0, hk0, cm0, hkk0⟩ := (hE.1.2 0 _ rfl).1 la (fun j => .int (I a j))
  obtain ⟨-, k1, hk1, cm1, hkk1⟩ := (hE.1.2 0 _ rfl).1 lb (fun j => .int (I b j))
  have hz : (List.map (fun v => v.category) (List.map (xcv g) st)).sum + (nativeFrameWords "java/lang/System" "arraycopy" 5 + 11) ≤ R.locals := by
    rw [xcats]
    have : nativeFrameWords "java/lang/System" "arraycopy" 5 + 11 ≤ 50 := Nat.le_of_ble_eq_true rfl
    omega
  obtain ⟨vm', X', step⟩ := X.arraycopy hx hown (hts _ hlink) (hts _ hnat) (hts _ hstat) (hts _ hini) (src := xad g a) (dst := xad g b) (cs := arrV (g.2.2.2.2.1 12) la (fun j => .int (I a j))) (cd := arrV (g.2.2.2.2.1 12) lb (fun j => .int (I b j))) (srcPos := sp) (destPos := dp) (n := m0) (by rw [hT]; exact qs) (by rw [hT]; exact qa)
    (fun _ h => by cases h) (fun _ h => by cases h) (fun h => by cases h) (fun h => by cases h) hk0 hk1 hkk0 hkk1 rfl h1 h2 h3
    (by rw [nn sp h1, nn m0 h3, arrV_size]; omega)
    (by rw [nn dp h2, nn m0 h3, arrV_size]; omega)
    (fun vm₁ _ i hi => by
      have e : (arrV (g.2.2.2.2.1 12) la (fun j => Value.int (I a j))).slots.getD (sp.toNatClampNeg + i) .null = .int (I a (sp.toNatClampNeg + i)) := by
        rw [Array.getD_eq_getD_getElem?, arrV_read _ _ (by omega)]
        rfl
      refine ⟨?_, ?_⟩
      · rw [e]; rfl
      · rw [e]; exact trivial)
    (g := F0 m pc lsA ((Value.int m0 :: Value.int dp :: Value.ref b :: Value.int sp :: Value.ref a :: st).map (xcv g))) rfl (by rw [hml]; exact hl.1) (rest := st.map (xcv g)) rfl (by rw [hb]; exact hd) (by omega) (by show 2 * 0 + _ + _ ≤ _; omega)
  have e1 : copied (arrV (g.2.2.2.2.1 12) la (fun j => Value.int (I a j))) (arrV (g.2.2.2.2.1 12) lb (fun j => Value.int (I b j))) sp dp m0 = arrV (g.2.2.2.2.1 12) lb (fun j => .int (va_cpy (I a) (I b) sp.toNatClampNeg dp.toNatClampNeg m0.toNatClampNeg j)) := va_copied (fun z => .int z) _ _ (I a) (I b) h4
  rw [e1] at X' step
  have hlt : xad g b < H.size := (Array.getElem?_eq_some_iff.mp qa).1
  have hheap : ((T.setVm vm').setCell (xad g b) (arrV (g.2.2.2.2.1 12) lb (fun j => .int (va_cpy (I a) (I b) sp.toNatClampNeg dp.toNatClampNeg m0.toNatClampNeg j)))).heap = H.setIfInBounds (xad g b) (arrV (g.2.2.2.2.1 12) lb (fun j => .int (va_cpy (I a) (I b) sp.toNatClampNeg dp.toNatClampNeg m0.toNatClampNeg j))) := by rw [← hT]; rfl
  have hH9 : xH g (nx, sh, P, fun q => if q = b then va_cpy (I a) (I b) sp.toNatClampNeg dp.toNatClampNeg m0.toNatClampNeg else I q) (H.setIfInBounds (xad g b) (arrV (g.2.2.2.2.1 12) lb (fun j => .int (va_cpy (I a) (I b) sp.toNatClampNeg dp.toNatClampNeg m0.toNatClampNeg j)))) := by
    refine xH_upd (σ := (nx, sh, P, I)) (a := b) hH (by show (sh b).1 < 15; rw [hb0]; exact Nat.le_of_ble_eq_true rfl) rfl rfl (fun q hq => ⟨rfl, if_neg hq⟩) (by simp) (fun q hq => by simp [Array.getElem?_setIfInBounds, Ne.symm hq]) ?_
    refine ⟨fun z => ?_, fun _ => ?_, fun z => ?_⟩
    · have z : (sh b).1 < 12 := z
      rw [hb0] at z; exact absurd z (by show ¬ 12 < 12; omega)
    · show _ = some (arrV (g.2.2.2.2.1 (sh b).1) (sh b).2 (fun k => .int ((if b = b then va_cpy (I a) (I b) sp.toNatClampNeg dp.toNatClampNeg m0.toNatClampNeg else I b) k)))
      rw [hb0, if_pos rfl]
      simp [Array.getElem?_setIfInBounds, hlt]
    · have z : (sh b).1 = 14 := z
      rw [hb0] at z; exact absurd z (by show ¬ 12 = 14; omega)
  obtain ⟨t, t1, t2⟩ := kk p R e' s m args below meth c F Qf hr lsA _ _ cells slots hl hH9 (fun q hq => by
    rcases List.mem_append.mp hq with h | h
    · exact hlo q h
    · obtain ⟨z, -, hz⟩ := List.mem_map.mp h
      rw [← hz]
      exact xad_ge b1) hc hs _ hheap X'
  exact ⟨t, step t t1, t2⟩
end XMAKE
/-- Object's constructor -/
theorem x_objInit {g : xG} {y : xY} {d k n : Nat} {Q : Option Value → xS → Prop} {pc : Nat} {ls : List (Option Value)} {st : List Value} {σ : xS} {a index : Nat} (hd : decode y.2.1 pc = .ok (.invokespecial index, 3)) (hl0 : Cond.methodLink y.1.cls index Lib.objectInit ∈ lw_g) (hi0 : Cond.instanceMethod Lib.objectInit ∈ lw_g) (hc0 : Cond.code Lib.objectInit ⟨#[0xb1]⟩ 1 none ∈ lw_g) (hdp : 1 ≤ d) (hrest : (st.map fun v => v.category).sum ≤ 8) (kk : xX g y d k n Q (pc + 3) ls st σ) : xX g y d k n Q pc ls (.ref a :: st) σ := by
  intro p R e' s m args below meth c F Qf hr lsA H locs cells slots hl hH hlo hc hs
  obtain ⟨hx, hb, hml, hown, hts, -, -, -, hE, hR1, hR2⟩ := id F
  refine W.objInit hx hb hown (hts _ hl0) (hts _ hi0) (hts _ hc0) rfl (by rw [hml]; exact hl.1) rfl hd (by omega) ?_ (kk p R e' s m args below meth c F Qf hr lsA H locs cells slots hl hH hlo hc hs)
  have h9 := lv_room (m := m) (pc := pc) (ls := lsA) (rest := (Value.ref a :: st).map (xcv g)) (st := st.map (xcv g)) (by rw [xcats]; exact hrest)
  have : (List.map (fun v => v.category) (List.map (xcv g) st)).sum = (st.map fun v => v.category).sum := xcats st
  omega
/-- a text's constant -/
theorem x_ldcS {g : xG} {y : xY} {d k n : Nat} {Q : Option Value → xS → Prop} {pc : Nat} {ls : List (Option Value)} {st : List Value} {σ : xS} {a index : Nat} {tx : String} (hd : decode y.2.1 pc = .ok (.ldc index, 2)) (hR : ∀ s : State, xE g s → vk_R y.1.cls index tx (xad g a) s) (kk : xX g y d k n Q (pc + 2) ls (.ref a :: st) σ) : xX g y d k n Q pc ls st σ := by
  intro p R e' s m args below meth c F Qf hr lsA H locs cells slots hl hH hlo hc hs
  obtain ⟨hx, hb, -, hown, hts, -, -, -, hE, -, -⟩ := id F
  exact va_ldcS hx hb hown (hR s hE) hd (kk p R e' s m args below meth c F Qf hr lsA H locs cells slots hl hH hlo hc hs)
theorem x_ldc2 {g : xG} {y : xY} {d k n : Nat} {Q : Option Value → xS → Prop} {pc : Nat} {ls : List (Option Value)} {st : List Value} {σ : xS} {index : Nat} {v : Int64} (hd : decode y.2.1 pc = .ok (.ldc2_w index, 3)) (hw : Cond.constantLong y.1.cls index v ∈ lw_g) (kk : xX g y d k n Q (pc + 3) ls (.long v :: st) σ) : xX g y d k n Q pc ls st σ := by
  intro p R e' s m args below meth c F Qf hr lsA H locs cells slots hl hH hlo hc hs
  obtain ⟨hx, hb, -, hown, hts, -, -, -, hE, -, -⟩ := id F
  exact lv_ldc2 hx hb hown (hts _ hw) hd (kk p R e' s m args below meth c F Qf hr lsA H locs cells slots hl hH hlo hc hs)
theorem x_ldc {g : xG} {y : xY} {d k n : Nat} {Q : Option Value → xS → Prop} {pc : Nat} {ls : List (Option Value)} {st : List Value} {σ : xS} {index : Nat} {v : Int32} (hd : decode y.2.1 pc = .ok (.ldc index, 2)) (hw : Cond.constant y.1.cls index v ∈ lw_g) (kk : xX g y d k n Q (pc + 2) ls (.int v :: st) σ) : xX g y d k n Q pc ls st σ := by
  intro p R e' s m args below meth c F Qf hr lsA H locs cells slots hl hH hlo hc hs
  obtain ⟨hx, hb, -, hown, hts, -, -, -, hE, -, -⟩ := id F
  exact lv_ldc hx hb hown (hts _ hw) hd (kk p R e' s m args below meth c F Qf hr lsA H locs cells slots hl hH hlo hc hs)
