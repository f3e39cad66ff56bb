/-! the class: what waits to be shut, by bits; the reader inside a condition -/
/-- what waits to be shut, by bits -/
def tB (u : Int32) (tu : List Bool) : Prop := ∀ j, j < tu.length → u.toBitVec.getLsbD j = tu.getD j false
theorem tB.nil {u : Int32} : tB u [] := fun j h => absurd h (Nat.not_lt_zero j)
theorem tb_1 : ((1 &&& 31 : Int32).toBitVec.smod 32).toNat = 1 := by decide +kernel
theorem tb_v : ∀ b : Bool, ∀ j : Fin 32, (bv b).toBitVec.getLsbD j.1 = (decide (j.1 = 0) && b) := by decide +kernel
theorem tb_o : ∀ j : Fin 32, (1 : Int32).toBitVec.getLsbD j.1 = decide (j.1 = 0) := by decide +kernel
theorem tB.op {u x : Int32} {tu : List Bool} {b : Bool} (hx : x = bv b) (h : tB u tu) (hl : tu.length ≤ 5) : tB (u <<< (1 &&& 31) ||| x) (b :: tu) := by
  intro j hj
  rw [List.length_cons] at hj
  subst hx
  have e := tb_v b ⟨j, by omega⟩
  rw [Int32.toBitVec_or, BitVec.getLsbD_or, Int32.toBitVec_shiftLeft, BitVec.shiftLeft_eq', tb_1, BitVec.getLsbD_shiftLeft, decide_eq_true (show j < 32 by omega), Bool.true_and, e]
  cases j with
  | zero =>
    show (((!true) && _) || (true && b)) = b
    rw [Bool.not_true, Bool.false_and, Bool.false_or, Bool.true_and]
  | succ j =>
    show ((!decide (j + 1 < 1) && u.toBitVec.getLsbD (j + 1 - 1)) || (decide (j + 1 = 0) && b)) = tu.getD j false
    rw [decide_eq_false (by omega : ¬ j + 1 < 1), decide_eq_false (by omega : ¬ j + 1 = 0), Bool.false_and, Bool.or_false, Bool.not_false, Bool.true_and, Nat.add_sub_cancel]
    exact h j (by omega)
theorem tB.cl {u : Int32} {tu : List Bool} {b : Bool} (h : tB u (b :: tu)) (hl : tu.length ≤ 5) : tB (u >>> (1 &&& 31)) tu := by
  intro j hj
  rw [Int32.toBitVec_shiftRight, BitVec.sshiftRight_eq', tb_1, BitVec.getLsbD_sshiftRight, decide_eq_false (show ¬ 32 ≤ j by omega), Bool.not_false, Bool.true_and, if_pos (show 1 + j < 32 by omega), Nat.add_comm]
  exact h (j + 1) (by rw [List.length_cons]; omega)
theorem tB.top {u : Int32} {tu : List Bool} {b : Bool} (h : tB u (b :: tu)) : u &&& 1 = bv b := by
  have h0 : u.toBitVec.getLsbD 0 = b := h 0 (Nat.zero_lt_succ _)
  refine Int32.toBitVec_inj.mp (BitVec.eq_of_getLsbD_eq (fun j hj => ?_))
  rw [Int32.toBitVec_and, BitVec.getLsbD_and, tb_v b ⟨j, hj⟩, tb_o ⟨j, hj⟩]
  by_cases hz : j = 0
  · subst hz
    rw [h0]
    cases b <;> rfl
  · show (u.toBitVec.getLsbD j && decide (j = 0)) = (decide (j = 0) && b)
    rw [decide_eq_false hz, Bool.and_false, Bool.false_and]
/-- the reader inside a condition -/
def xRc (I : Nat → Nat → Int32) (T : Nat → Int32) (en sp : Nat) (tu : List Bool) (cd : List Int32) : Prop := xRr I T en sp ∧ I 97 6 = nI tu.length ∧ tu.length ≤ 5 ∧ tB (I 97 7) tu ∧ I 97 5 = nI cd.length ∧ cd.length < sp ∧ ∀ j, j < cd.length → I 99 j = cd.getD j 0
theorem xRr.fr {I I1 : Nat → Nat → Int32} {T : Nat → Int32} {en sp : Nat} (h : xRr I T en sp) (h2 : I1 97 2 = I 97 2) (h3 : I1 97 3 = I 97 3) (h8 : I1 98 = I 98) : xRr I1 T en sp := ⟨h2.trans h.1, h3.trans h.2.1, h.2.2.1, h.2.2.2.1, fun j hj => by rw [h8]; exact h.2.2.2.2 j hj⟩
theorem xRc.r3 {I I1 : Nat → Nat → Int32} {T : Nat → Int32} {en sp sp1 : Nat} {tu : List Bool} {cd : List Int32} (h : xRc I T en sp tu cd) (h3 : xR3 I I1) (hr : xRr I1 T en sp1) (hs : sp ≤ sp1) : xRc I1 T en sp1 tu cd := by
  obtain ⟨g1, g2, g3, g4, g5, g6, g7⟩ := h
  exact ⟨hr, (h3.2 6 (by decide)).trans g2, g3, by rw [h3.2 7 (by decide)]; exact g4, (h3.2 5 (by decide)).trans g5, by omega, fun j hj => by rw [h3.1 99 (by decide)]; exact g7 j hj⟩
theorem cd_a {I1 : Nat → Int32} {I0 : Nat → Int32} {cd : List Int32} {x : Int32} (h : ∀ j, j < cd.length → I0 j = cd.getD j 0) (e : I1 = upd I0 cd.length x) : ∀ j, j < (cd ++ [x]).length → I1 j = (cd ++ [x]).getD j 0 := fun j hj => by
  rw [List.length_append] at hj
  have hj : j < cd.length + 1 := hj
  rw [e]
  unfold upd
  by_cases h1 : j = cd.length
  · rw [if_pos h1, h1]; exact (gD_r (L := cd) (L2 := [x]) (j := 0)).symm
  · rw [if_neg h1, gD_l (by omega)]; exact h j (by omega)
theorem c_emit {g : xG} {nx : Nat} {sh : Nat → Nat × Nat} {P : Nat → Nat → Option Nat} {I : Nat → Nat → Int32} (hx : xFx sh P) {T : Nat → Int32} {en sp : Nat} {tu : List Bool} {cd : List Int32} {x : Int32} (hc : xRc I T en sp tu cd) (hs : cd.length + 1 < sp) : xMet g Y_Reader_emit 0 0 0 [.ref 97, .int x] (nx, sh, P, I) (fun r σ => ∃ I1 : Nat → Nat → Int32, r = none ∧ σ = (nx, sh, P, I1) ∧ xFrm [97, 99] I I1 ∧ xRc I1 T en sp tu (cd ++ [x])) := by
  obtain ⟨g1, g2, g3, g4, g5, g6, g7⟩ := hc
  have hen := g1.2.2.1
  have hse := g1.2.2.2.1
  refine (m_Reader_emit (x := x) hx g5 (by omega)).po ?_
  rintro _ _ ⟨rfl, rfl⟩
  refine ⟨_, rfl, rfl, xFrs (xFrs xFrm.rf), g1.fr ?_ ?_ ?_, ?_, g3, ?_, ?_, ?_, cd_a g7 ?_⟩
  · rw [xf (by decide), xo (by decide)]
  · rw [xf (by decide), xo (by decide)]
  · rw [xup_n (by decide), xup_n (by decide)]
  · rw [xf (by decide), xo (by decide)]; exact g2
  · rw [xf (by decide), xo (by decide)]; exact g4
  · rw [List.length_append]; exact xs
  · rw [List.length_append]; exact hs
  · rw [xup_n (by decide), xup_s]
theorem c_close {g : xG} {nx : Nat} {sh : Nat → Nat × Nat} {P : Nat → Nat → Option Nat} {I : Nat → Nat → Int32} (hx : xFx sh P) {T : Nat → Int32} {en sp : Nat} {b : Bool} {tu : List Bool} {cd : List Int32} (hc : xRc I T en sp (b :: tu) cd) : xMet g Y_Reader_close 0 0 0 [.ref 97] (nx, sh, P, I) (fun r σ => ∃ I1 : Nat → Nat → Int32, r = none ∧ σ = (nx, sh, P, I1) ∧ xFrm [97] I I1 ∧ xRc I1 T en sp tu cd) := by
  obtain ⟨g1, g2, g3, g4, g5, g6, g7⟩ := hc
  rw [List.length_cons] at g2 g3
  refine (m_Reader_close hx rfl g2).po ?_
  rintro _ _ ⟨rfl, rfl⟩
  refine ⟨_, rfl, rfl, xFrs (xFrs xFrm.rf), g1.fr ?_ ?_ ?_, ?_, by omega, ?_, ?_, g6, ?_⟩
  · rw [xf (by decide), xf (by decide)]
  · rw [xf (by decide), xf (by decide)]
  · rw [xup_n (by decide), xup_n (by decide)]
  · rw [xs]; exact (nI_subN (a := tu.length + 1) (b := 1) (by omega)).trans rfl
  · rw [xf (by decide), xs]; exact g4.cl (by omega)
  · rw [xf (by decide), xf (by decide)]; exact g5
  · intro j hj; rw [xo (by decide), xo (by decide)]; exact g7 j hj
theorem mu_y {T : Nat → Int32} {en sp : Nat} {c : Int32} (h : muW T en sp false c = true) : (¬ hrT T en sp = c) ∧ muS T en sp false c = sp := by
  refine ⟨fun z => ?_, ?_⟩
  · unfold muW at h; rw [decide_eq_true z] at h; cases h
  · unfold muS; rw [if_pos h]
theorem mu_n {T : Nat → Int32} {en sp : Nat} {c : Int32} (h : ¬ muW T en sp false c = true) : hrT T en sp = c ∧ muS T en sp false c = sp + 1 := by
  refine ⟨?_, ?_⟩
  · by_cases z : hrT T en sp = c
    · exact z
    · exact absurd (by unfold muW; rw [decide_eq_false z]; rfl) h
  · unfold muS; rw [if_neg h]
theorem c_take {g : xG} {nx : Nat} {sh : Nat → Nat × Nat} {P : Nat → Nat → Option Nat} {I : Nat → Nat → Int32} (hx : xFx sh P) {T : Nat → Int32} {en sp : Nat} {tu : List Bool} {cd : List Int32} {c : Int32} (hc : xRc I T en sp tu cd) (hc0 : 0 ≤ c) : xMet g Y_Reader_take 1 0 0 [.ref 97, .int c] (nx, sh, P, I) (fun r σ => ∃ I1 : Nat → Nat → Int32, r = some (.int (bv (!muW T en sp false c))) ∧ σ = (nx, sh, P, I1) ∧ xFrm [97] I I1 ∧ xRc I1 T en (muS T en sp false c) tu cd) := by
  refine (m_Reader_take hx hc.1 hc0).po ?_
  rintro _ _ ⟨I1, rfl, rfl, hF, hr⟩
  exact ⟨I1, rfl, rfl, hF.1, hc.r3 hF hr muS_ge⟩
theorem c_test {g : xG} {nx : Nat} {sh : Nat → Nat × Nat} {P : Nat → Nat → Option Nat} {I : Nat → Nat → Int32} (hx : xFx sh P) {T : Nat → Int32} {en sp : Nat} {tu : List Bool} {cd : List Int32} (hc : xRc I T en sp tu cd) (hT7 : ∀ j, j < en → 0 ≤ T j ∧ T j ≤ 127) (hn : cd.length < 100) : xMet g Y_Reader_readTest 5 0 0 [.ref 97] (nx, sh, P, I) (fun r σ => ∃ I1 : Nat → Nat → Int32, r = some (.int (bv (!tsW T en sp))) ∧ σ = (nx, sh, P, I1) ∧ xFrm [97, 99] I I1 ∧ xRr I1 T en (tsS T en sp) ∧ (tsW T en sp = false → sp + 3 ≤ tsS T en sp ∧ xRc I1 T en (tsS T en sp) tu (cd ++ [tsT T en sp]))) := by
  obtain ⟨g1, g2, g3, g4, g5, g6, g7⟩ := hc
  refine (m_Reader_readTest hx g1 g5 hn hT7).po ?_
  rintro _ _ ⟨I1, rfl, rfl, hr, hF, h1, -, h3⟩
  refine ⟨I1, rfl, rfl, hF, hr, fun hw => ?_⟩
  obtain ⟨f1, f2⟩ := h3 hw
  obtain ⟨a, b, v, -, -, -, -, -, -, -, hge, -, -, -⟩ := ts_ok hw
  exact ⟨hge, hr, (h1 6 (by decide) (by decide)).trans g2, g3, by rw [h1 7 (by decide) (by decide)]; exact g4, by rw [List.length_append]; exact f1, by rw [List.length_append]; show cd.length + 1 < _; omega, cd_a g7 f2⟩
theorem tuO_l {tu : List Bool} (h : tu.length = 0) : tu = [] := List.eq_nil_of_length_eq_zero h
set_option maxHeartbeats 4000000 in
set_option maxRecDepth 100000 in
theorem m_Reader_closeTurns {g : xG} {nx : Nat} {sh : Nat → Nat × Nat} {P : Nat → Nat → Option Nat} {I : Nat → Nat → Int32} (hx : xFx sh P) {T : Nat → Int32} {en sp : Nat} {tu : List Bool} {cd : List Int32} (hc : xRc I T en sp tu cd) : xMet g Y_Reader_closeTurns 1 0 0 [.ref 97] (nx, sh, P, I) (fun r σ => ∃ (I1 : Nat → Nat → Int32) (tu1 : List Bool), r = none ∧ σ = (nx, sh, P, I1) ∧ xFrm [97] I I1 ∧ pR T en (1, sp, tu, cd) (1, sp, tu1, cd) ∧ xRc I1 T en sp tu1 cd ∧ tuO tu1 ∧ tu1.length ≤ tu.length) := by
  refine xMet.of [some (.ref 97), none] (by decide +kernel) (Nat.le_of_ble_eq_true rfl) rfl ?_
  refine x_iconst (v := 0) dX6_closeTurns_0 (by decide) ?_
  refine x_istore_n dX6_closeTurns_1 (Nat.le_of_ble_eq_true rfl) ?_
  try simp only [xst, xst2, xclr, xset, xwide]
  have K2 : ∀ (fuel : Nat) (i : Nat) (tu1 : List Bool) (I2 : Nat → Nat → Int32) (hi : i + tu1.length ≤ 5) (hl : tu1.length ≤ tu.length) (hF : xFrm [97] I I2) (hc2 : xRc I2 T en sp tu1 cd) (hp : pR T en (1, sp, tu, cd) (1, sp, tu1, cd)), tu1.length < fuel → xX g Y_Reader_closeTurns 1 0 0 (fun r σ => ∃ (I1 : Nat → Nat → Int32) (tu1 : List Bool), r = none ∧ σ = (nx, sh, P, I1) ∧ xFrm [97] I I1 ∧ pR T en (1, sp, tu, cd) (1, sp, tu1, cd) ∧ xRc I1 T en sp tu1 cd ∧ tuO tu1 ∧ tu1.length ≤ tu.length) 2 [some (.ref 97), some (.int (nI i))] [] (nx, sh, P, I2) := by
    intro fuel
    induction fuel with
    | zero => intro i tu1 I2 hi hl hF hc2 hp hm; exact absurd hm (Nat.not_lt_zero _)
    | succ fuel ih2 =>
      intro i tu1 I2 hi hl hF hc2 hp hm
      refine x_iload_n dX6_closeTurns_2 rfl ?_
      refine x_iconst (v := 5) dX6_closeTurns_3 (by decide) ?_
      refine x_icmp_ge (tgt := 34) dX6_closeTurns_4 rfl (fun c4 => ?_) (fun c4 => ?_)
      · have h5 : 5 ≤ i := (nI_leI (a := 5) (by decide) (by omega)).mp c4
        have hO : tuO tu1 := Or.inl (tuO_l (by omega))
        refine x_return dX6_closeTurns_34 rfl ?_
        exact ⟨I2, _, rfl, rfl, hF, hp, hc2, hO, hl⟩
      · refine x_aload_n dX6_closeTurns_7 rfl ?_
        refine y_geti dX6_closeTurns_8 F_Reader_28 (fxo_97 hx) rfl hc2.2.1 ?_
        refine x_if_le (tgt := 34) dX6_closeTurns_11 rfl (fun c11 => ?_) (fun c11 => ?_)
        · have hO : tuO tu1 := Or.inl (tuO_l (by have h9 := (nI_leI (a := tu1.length) (b := 0) (by omega) (by decide)).mp c11; omega))
          refine x_return dX6_closeTurns_34 rfl ?_
          exact ⟨I2, _, rfl, rfl, hF, hp, hc2, hO, hl⟩
        · obtain ⟨b, t, rfl⟩ : ∃ b t, tu1 = b :: t := by
            cases tu1 with
            | nil => exact absurd (show nI 0 ≤ (0 : Int32) from by decide) c11
            | cons b t => exact ⟨b, t, rfl⟩
          rw [List.length_cons] at hi hl hm
          have htop := hc2.2.2.2.1.top
          refine x_aload_n dX6_closeTurns_14 rfl ?_
          refine y_geti dX6_closeTurns_15 F_Reader_31 (fxo_97 hx) rfl rfl ?_
          refine x_iconst (v := 1) dX6_closeTurns_18 (by decide) ?_
          refine x_iand dX6_closeTurns_19 ?_
          refine x_iconst (v := 1) dX6_closeTurns_20 (by decide) ?_
          refine x_icmp_ne (tgt := 34) dX6_closeTurns_21 rfl (fun c21 => ?_) (fun c21 => ?_)
          · have hO : tuO (b :: t) := by
              cases b with
              | true => exact absurd (htop.trans rfl) c21
              | false => exact Or.inr ⟨t, rfl⟩
            refine x_return dX6_closeTurns_34 rfl ?_
            exact ⟨I2, _, rfl, rfl, hF, hp, hc2, hO, hl⟩
          · have hb : b = true := by
              cases b with
              | true => rfl
              | false => rw [c21] at htop; exact absurd htop (by decide)
            subst hb
            refine x_aload_n dX6_closeTurns_24 rfl ?_
            refine x_callV (k2 := 0) (n2 := 0) dX6_closeTurns_25 LV_Reader_129 (c_close (I := I2) hx hc2) rfl rfl (fxo_97 hx) rfl (Nat.le_of_ble_eq_true rfl) (Nat.le_of_ble_eq_true rfl) (Nat.le_of_ble_eq_true rfl) (Nat.le_of_ble_eq_true rfl) ?_
            rintro _ _ ⟨I3, rfl, rfl, hF3, hc3⟩
            refine x_iinc (v := (nI (i + 1))) dX6_closeTurns_28 rfl (nI_1 _) (Nat.le_of_ble_eq_true rfl) ?_
            try simp only [xst, xst2, xclr, xset, xwide]
            refine x_goto (tgt := 2) dX6_closeTurns_31 rfl ?_
            exact ih2 (i + 1) t I3 (by omega) (by omega) (hF.tr hF3) hc3 (hp.tr (pR.st pS_t)) (by omega)
  exact K2 _ 0 tu I (by have := hc.2.2.1; omega) (Nat.le_refl _) xFrm.rf hc pR.rf (Nat.lt_succ_self _)
