/-! the reference: buy -/
def mk4 (a b c d : Int32) (k : Nat) : Int32 := if k = 0 then a else if k = 1 then b else if k = 2 then c else d
/-- may a BUY be so, the first k coins looked at -/
def byB (s : Nat → Int32) (p : Int32) (m : Nat → Int32) : Nat → Bool
  | 0 => decide (0 ≤ p ∧ p ≤ 99)
  | k + 1 => byB s p m k && (decide (-4 ≤ m k ∧ m k ≤ 4) && decide (m k = 0 ∨ (0 ≤ nI k ∧ nI k < s 0)))
theorem byB_s {s : Nat → Int32} {p : Int32} {m : Nat → Int32} {k : Nat} : byB s p m (k + 1) = true ↔ byB s p m k = true ∧ (-4 ≤ m k ∧ m k ≤ 4) ∧ (m k = 0 ∨ (0 ≤ nI k ∧ nI k < s 0)) := by
  show (byB s p m k && (decide (-4 ≤ m k ∧ m k ≤ 4) && decide (m k = 0 ∨ (0 ≤ nI k ∧ nI k < s 0)))) = true ↔ _
  rw [Bool.and_eq_true, Bool.and_eq_true, decide_eq_true_iff, decide_eq_true_iff]
theorem bvT {b : Bool} (h : b = true) : (1 : Int32) = bv b := by rw [h]; rfl
theorem bvF {b : Bool} (h : ¬ b = true) : (0 : Int32) = bv b := by unfold bv; rw [if_neg h]
def a_buy (s : Nat → Int32) (p a b c d : Int32) : Int32 := if p = -1 then 0 else if byB s p (mk4 a b c d) 4 = true then (if s 3 = 6 then -4 else s 3 + 1) else -2
def s_buy (s : Nat → Int32) (p a b c d : Int32) : Nat → Int32 := if p = -1 then upd s 3 0 else if byB s p (mk4 a b c d) 4 = true ∧ ¬ s 3 = 6 then upd (upd (upd (upd (upd (upd s (47 + cN s 3) p) (53 + 4 * (cN s 3 % 6)) a) (53 + 4 * (cN s 3 % 6) + 1) b) (53 + 4 * (cN s 3 % 6) + 2) c) (53 + 4 * (cN s 3 % 6) + 3) d) 3 (s 3 + 1) else s
theorem nI_eqI {a b : Nat} (ha : a < 2 ^ 31) (hb : b < 2 ^ 31) : nI a = nI b ↔ a = b := ⟨fun h => by have h1 := congrArg Int32.toNatClampNeg h; rw [nI_clamp ha, nI_clamp hb] at h1; exact h1, fun h => by rw [h]⟩

set_option maxHeartbeats 4000000 in
set_option maxRecDepth 100000 in
theorem r_buy {g : xG} {nx : Nat} {sh : Nat → Nat × Nat} {P : Nat → Nat → Option Nat} {I : Nat → Nat → Int32} (hx : xFx sh P) {p a b c d : Int32} (hR : RI (I 128)) : xMet g Y_M_buy 2 0 0 [.ref 127, .int p, .int a, .int b, .int c, .int d] (nx, sh, P, I) (fun r σ => ∃ I1 : Nat → Nat → Int32, r = some (.int (a_buy (I 128) p a b c d)) ∧ σ = (nx, sh, P, I1) ∧ I1 128 = s_buy (I 128) p a b c d ∧ xFrm [128] I I1) := by
  refine xMet.of [some (.ref 127), some (.int p), some (.int a), some (.int b), some (.int c), some (.int d), none, none, none, none] (by decide +kernel) (Nat.le_of_ble_eq_true rfl) rfl ?_
  obtain ⟨⟨n0, b0, e0⟩, ⟨n1, b1, e1⟩, ⟨n2, b2, e2⟩, ⟨n3, b3, e3⟩, ⟨n4, b4, e4⟩, ⟨n5, b5, e5⟩, ⟨n6, b6, e6⟩, ⟨n7, b7, e7⟩, ⟨n9, b9, e9⟩⟩ := hR.k
  obtain ⟨s, hs⟩ : ∃ s, s = I 128 := ⟨_, rfl⟩
  refine x_iload_n dX11_buy_0 rfl ?_
  refine x_iconst (v := (-1)) dX11_buy_1 (by decide) ?_
  refine x_icmp_ne (tgt := 14) dX11_buy_2 rfl (fun c2 => ?_) (fun c2 => ?_)
  · refine x_bipush (v := 53) dX11_buy_14 (by decide) ?_
    refine x_iconst (v := 4) dX11_buy_16 (by decide) ?_
    refine x_aload_n dX11_buy_17 rfl ?_
    refine y_getr dX11_buy_18 F_M_9 (fxo_127 hx) rfl (fxp_127_1 hx) ?_
    refine x_iconst (v := 3) dX11_buy_21 (by decide) ?_
    refine y_iaload dX11_buy_22 (fxk_128 hx) (vi (j := 3) rfl (by omega) (by decide)) (rI (j := 3) rfl e3) ?_
    refine x_bipush (v := 6) dX11_buy_23 (by decide) ?_
    refine x_irem dX11_buy_25 (by decide) ?_
    rw [show nI n3 - nI n3 / 6 * 6 = nI (n3 % 6) from pk_rem (d := 6) (by omega) (by decide) (by decide)]
    refine x_imul dX11_buy_26 ?_
    refine x_iadd dX11_buy_27 ?_
    rw [show (53 : Int32) + 4 * nI (n3 % 6) = nI (53 + 4 * (n3 % 6)) from nadd (a := 53) rfl (nmul (a := 4) rfl rfl)]
    refine x_istore dX11_buy_28 (Nat.le_of_ble_eq_true rfl) ?_
    try simp only [xst, xst2, xclr, xset, xwide]
    refine x_iload_n dX11_buy_30 rfl ?_
    refine x_iconst (v := 0) dX11_buy_31 (by decide) ?_
    refine x_bipush (v := 99) dX11_buy_32 (by decide) ?_
    refine x_callS (k2 := 0) (n2 := 0) dX11_buy_34 LS_M_65 r_in rfl rfl (Nat.le_of_ble_eq_true rfl) (Nat.le_of_ble_eq_true rfl) (Nat.le_of_ble_eq_true rfl) (Nat.le_of_ble_eq_true rfl) ?_
    rintro _ _ ⟨rfl, rfl⟩
    refine x_istore dX11_buy_37 (Nat.le_of_ble_eq_true rfl) ?_
    try simp only [xst, xst2, xclr, xset, xwide]
    refine x_iconst (v := 0) dX11_buy_39 (by decide) ?_
    refine x_istore dX11_buy_40 (Nat.le_of_ble_eq_true rfl) ?_
    try simp only [xst, xst2, xclr, xset, xwide]
    have K42 : ∀ (fuel : Nat) (k : Nat) (v7 : Int32) (v9 : Option Value) (hk : k ≤ 4) (hv : v7 = bv (byB (I 128) p (mk4 a b c d) k)), 4 - k < fuel → xX g Y_M_buy 2 0 0 (fun r σ => ∃ I1 : Nat → Nat → Int32, r = some (.int (a_buy (I 128) p a b c d)) ∧ σ = (nx, sh, P, I1) ∧ I1 128 = s_buy (I 128) p a b c d ∧ xFrm [128] I I1) 42 [some (.ref 127), some (.int p), some (.int a), some (.int b), some (.int c), some (.int d), some (.int (nI (53 + 4 * (n3 % 6)))), some (.int v7), some (.int (nI k)), v9] [] (nx, sh, P, I) := by
      intro fuel
      induction fuel with
      | zero => intro k v7 v9 hk hv hm; exact absurd hm (Nat.not_lt_zero _)
      | succ fuel ih42 =>
        intro k v7 v9 hk hv hm
        refine x_iload dX11_buy_42 rfl ?_
        refine x_iconst (v := 4) dX11_buy_44 (by decide) ?_
        refine x_icmp_ge (tgt := 125) dX11_buy_45 rfl (fun c45 => ?_) (fun c45 => ?_)
        · have hie : k = 4 := cge_t (by decide) hk c45
          subst hie
          refine x_iload dX11_buy_125 rfl ?_
          refine x_if_ne (tgt := 133) dX11_buy_127 rfl (fun c127 => ?_) (fun c127 => ?_)
          · have hB4 : byB (I 128) p (mk4 a b c d) 4 = true := bv_1 (by rw [← hv]; exact c127)
            refine x_aload_n dX11_buy_133 rfl ?_
            refine y_getr dX11_buy_134 F_M_9 (fxo_127 hx) rfl (fxp_127_1 hx) ?_
            refine x_iconst (v := 3) dX11_buy_137 (by decide) ?_
            refine y_iaload dX11_buy_138 (fxk_128 hx) (vi (j := 3) rfl (by omega) (by decide)) (rI (j := 3) rfl e3) ?_
            refine x_bipush (v := 6) dX11_buy_139 (by decide) ?_
            refine x_icmp_ne (tgt := 147) dX11_buy_141 rfl (fun c141 => ?_) (fun c141 => ?_)
            · have hn36 : n3 < 6 := by
                rcases Nat.lt_or_ge n3 6 with h | h
                · exact h
                · exact absurd (show nI n3 = 6 from by rw [show n3 = 6 by omega]; rfl) c141
              refine x_aload_n dX11_buy_147 rfl ?_
              refine y_getr dX11_buy_148 F_M_9 (fxo_127 hx) rfl (fxp_127_1 hx) ?_
              refine x_bipush (v := 47) dX11_buy_151 (by decide) ?_
              refine x_aload_n dX11_buy_153 rfl ?_
              refine y_getr dX11_buy_154 F_M_9 (fxo_127 hx) rfl (fxp_127_1 hx) ?_
              refine x_iconst (v := 3) dX11_buy_157 (by decide) ?_
              refine y_iaload dX11_buy_158 (fxk_128 hx) (vi (j := 3) rfl (by omega) (by decide)) (rI (j := 3) rfl e3) ?_
              refine x_iadd dX11_buy_159 ?_
              refine x_iload_n dX11_buy_160 rfl ?_
              refine y_iastore dX11_buy_161 (fxk_128 hx) (vi (j := (47 + n3)) (nadd (a := 47) (b := n3) rfl rfl) (by omega) (by decide)) (ci (j := (47 + n3)) (nadd (a := 47) (b := n3) rfl rfl) (by omega)) ?_
              rw [xup_va]
              refine x_aload_n dX11_buy_162 rfl ?_
              refine y_getr dX11_buy_163 F_M_9 (fxo_127 hx) rfl (fxp_127_1 hx) ?_
              refine x_iload dX11_buy_166 rfl ?_
              refine x_iload_n dX11_buy_168 rfl ?_
              refine y_iastore dX11_buy_169 (fxk_128 hx) (vi (j := (53 + 4 * (n3 % 6))) rfl (by omega) (by decide)) (ci (j := (53 + 4 * (n3 % 6))) rfl (by omega)) ?_
              rw [xup_row]
              refine x_aload_n dX11_buy_170 rfl ?_
              refine y_getr dX11_buy_171 F_M_9 (fxo_127 hx) rfl (fxp_127_1 hx) ?_
              refine x_iload dX11_buy_174 rfl ?_
              refine x_iconst (v := 1) dX11_buy_176 (by decide) ?_
              refine x_iadd dX11_buy_177 ?_
              rw [show nI (53 + 4 * (n3 % 6)) + 1 = nI ((53 + 4 * (n3 % 6)) + 1) from nI_1 _]
              refine x_iload_n dX11_buy_178 rfl ?_
              refine y_iastore dX11_buy_179 (fxk_128 hx) (vi (j := ((53 + 4 * (n3 % 6)) + 1)) rfl (by omega) (by decide)) (ci (j := ((53 + 4 * (n3 % 6)) + 1)) rfl (by omega)) ?_
              rw [xup_row]
              refine x_aload_n dX11_buy_180 rfl ?_
              refine y_getr dX11_buy_181 F_M_9 (fxo_127 hx) rfl (fxp_127_1 hx) ?_
              refine x_iload dX11_buy_184 rfl ?_
              refine x_iconst (v := 2) dX11_buy_186 (by decide) ?_
              refine x_iadd dX11_buy_187 ?_
              rw [show nI (53 + 4 * (n3 % 6)) + 2 = nI ((53 + 4 * (n3 % 6)) + 2) from nadd (b := 2) rfl rfl]
              refine x_iload dX11_buy_188 rfl ?_
              refine y_iastore dX11_buy_190 (fxk_128 hx) (vi (j := ((53 + 4 * (n3 % 6)) + 2)) rfl (by omega) (by decide)) (ci (j := ((53 + 4 * (n3 % 6)) + 2)) rfl (by omega)) ?_
              rw [xup_row]
              refine x_aload_n dX11_buy_191 rfl ?_
              refine y_getr dX11_buy_192 F_M_9 (fxo_127 hx) rfl (fxp_127_1 hx) ?_
              refine x_iload dX11_buy_195 rfl ?_
              refine x_iconst (v := 3) dX11_buy_197 (by decide) ?_
              refine x_iadd dX11_buy_198 ?_
              rw [show nI (53 + 4 * (n3 % 6)) + 3 = nI ((53 + 4 * (n3 % 6)) + 3) from nadd (b := 3) rfl rfl]
              refine x_iload dX11_buy_199 rfl ?_
              refine y_iastore dX11_buy_201 (fxk_128 hx) (vi (j := ((53 + 4 * (n3 % 6)) + 3)) rfl (by omega) (by decide)) (ci (j := ((53 + 4 * (n3 % 6)) + 3)) rfl (by omega)) ?_
              rw [xup_row]
              refine x_aload_n dX11_buy_202 rfl ?_
              refine y_getr dX11_buy_203 F_M_9 (fxo_127 hx) rfl (fxp_127_1 hx) ?_
              refine x_iconst (v := 3) dX11_buy_206 (by decide) ?_
              refine x_dup2 dX11_buy_207 rfl rfl ?_
              refine y_iaload dX11_buy_208 (fxk_128 hx) (vi (j := 3) rfl (by omega) (by decide)) (rI (j := 3) rfl ((congrFun va_up_at _).trans ((if_neg (by omega)).trans ((if_neg (by omega)).trans ((if_neg (by omega)).trans ((if_neg (by omega)).trans ((if_neg (by omega)).trans e3))))))) ?_
              refine x_iconst (v := 1) dX11_buy_209 (by decide) ?_
              refine x_iadd dX11_buy_210 ?_
              refine y_iastore dX11_buy_211 (fxk_128 hx) (vi (j := 3) rfl (by omega) (by decide)) (ci (j := 3) rfl (by omega)) ?_
              rw [xup_row]
              refine x_aload_n dX11_buy_212 rfl ?_
              refine y_getr dX11_buy_213 F_M_9 (fxo_127 hx) rfl (fxp_127_1 hx) ?_
              refine x_iconst (v := 3) dX11_buy_216 (by decide) ?_
              refine y_iaload dX11_buy_217 (fxk_128 hx) (vi (j := 3) rfl (by omega) (by decide)) (rI (j := 3) rfl ((congrFun va_up_at _).trans (if_pos rfl : (if 3 = 3 then nI n3 + 1 else _) = nI n3 + 1))) ?_
              refine x_ireturn dX11_buy_218 rfl nb_int ?_
              exact ⟨_, by unfold a_buy; rw [if_neg c2, if_pos hB4, if_neg (show ¬ I 128 3 = 6 by rw [e3]; exact c141)]; rw [e3], rfl, by rw [va_up_at]; unfold s_buy; rw [if_neg c2, if_pos ⟨hB4, show ¬ I 128 3 = 6 by rw [e3]; exact c141⟩, cN_of e3 (by omega), e3], xFrm.rf.up (l1 := [])⟩
            · refine x_bipush (v := (-4)) dX11_buy_144 (by decide) ?_
              refine x_ireturn dX11_buy_146 rfl nb_int ?_
              exact ⟨I, by unfold a_buy; rw [if_neg c2, if_pos hB4, if_pos (show I 128 3 = 6 by rw [e3]; first | exact c141 | exact Classical.byContradiction c141)], rfl, by unfold s_buy; rw [if_neg c2, if_neg (fun z => z.2 (show I 128 3 = 6 by rw [e3]; first | exact c141 | exact Classical.byContradiction c141))], xFrm.rf⟩
          · refine x_bipush (v := (-2)) dX11_buy_130 (by decide) ?_
            refine x_ireturn dX11_buy_132 rfl nb_int ?_
            exact ⟨I, by unfold a_buy; rw [if_neg c2, if_neg (fun z => by rw [hv, z] at c127; exact absurd c127 (by decide))], rfl, by unfold s_buy; rw [if_neg c2, if_neg (fun z => by rw [hv, z.1] at c127; exact absurd c127 (by decide))], xFrm.rf⟩
        · have him : k < 4 := cge_f (by decide) hk c45
          have J80 : ∀ (x : Int32) (hxv : x = mk4 a b c d k), xX g Y_M_buy 2 0 0 (fun r σ => ∃ I1 : Nat → Nat → Int32, r = some (.int (a_buy (I 128) p a b c d)) ∧ σ = (nx, sh, P, I1) ∧ I1 128 = s_buy (I 128) p a b c d ∧ xFrm [128] I I1) 80 [some (.ref 127), some (.int p), some (.int a), some (.int b), some (.int c), some (.int d), some (.int (nI (53 + 4 * (n3 % 6)))), some (.int v7), some (.int (nI k)), v9] [.int x] (nx, sh, P, I) := by
            intro x hxv
            refine x_istore dX11_buy_80 (Nat.le_of_ble_eq_true rfl) ?_
            try simp only [xst, xst2, xclr, xset, xwide]
            have J117 : ∀ (y : Int32) (hy : y = bv (byB (I 128) p (mk4 a b c d) (k + 1))), xX g Y_M_buy 2 0 0 (fun r σ => ∃ I1 : Nat → Nat → Int32, r = some (.int (a_buy (I 128) p a b c d)) ∧ σ = (nx, sh, P, I1) ∧ I1 128 = s_buy (I 128) p a b c d ∧ xFrm [128] I I1) 117 [some (.ref 127), some (.int p), some (.int a), some (.int b), some (.int c), some (.int d), some (.int (nI (53 + 4 * (n3 % 6)))), some (.int v7), some (.int (nI k)), some (.int x)] [.int y] (nx, sh, P, I) := by
              intro y hy
              refine x_istore dX11_buy_117 (Nat.le_of_ble_eq_true rfl) ?_
              try simp only [xst, xst2, xclr, xset, xwide]
              refine x_iinc (v := (nI (k + 1))) dX11_buy_119 rfl (nI_1 _) (Nat.le_of_ble_eq_true rfl) ?_
              try simp only [xst, xst2, xclr, xset, xwide]
              refine x_goto (tgt := 42) dX11_buy_122 rfl ?_
              exact ih42 (k + 1) _ _ (by omega) hy (by omega)
            refine x_iload dX11_buy_82 rfl ?_
            refine x_if_eq (tgt := 116) dX11_buy_84 rfl (fun c84 => ?_) (fun c84 => ?_)
            · refine x_iconst (v := 0) dX11_buy_116 (by decide) ?_
              first | exact J117 _ (bvT (byB_s.mpr ⟨bv_1 (by rw [← hv]; exact c84), by rw [← hxv]; exact b_t c95, Or.inl (by rw [← hxv]; exact c100)⟩)) | exact J117 _ (bvT (byB_s.mpr ⟨bv_1 (by rw [← hv]; exact c84), by rw [← hxv]; exact b_t c95, Or.inr (b_t c109)⟩)) | exact J117 _ (bvF (fun z => (byB_s.mp z).2.2.elim (fun h => c100 (by rw [hxv]; exact h)) (b_f c109))) | exact J117 _ (bvF (fun z => b_f c95 (by rw [hxv]; exact (byB_s.mp z).2.1))) | exact J117 _ (bvF (fun z => by have h9 := bv_0 (hv.symm.trans c84); rw [(byB_s.mp z).1] at h9; cases h9))
            · refine x_iload dX11_buy_87 rfl ?_
              refine x_bipush (v := (-4)) dX11_buy_89 (by decide) ?_
              refine x_iconst (v := 4) dX11_buy_91 (by decide) ?_
              refine x_callS (k2 := 0) (n2 := 0) dX11_buy_92 LS_M_65 r_in rfl rfl (Nat.le_of_ble_eq_true rfl) (Nat.le_of_ble_eq_true rfl) (Nat.le_of_ble_eq_true rfl) (Nat.le_of_ble_eq_true rfl) ?_
              rintro _ _ ⟨rfl, rfl⟩
              refine x_if_eq (tgt := 116) dX11_buy_95 rfl (fun c95 => ?_) (fun c95 => ?_)
              · refine x_iconst (v := 0) dX11_buy_116 (by decide) ?_
                first | exact J117 _ (bvT (byB_s.mpr ⟨bv_1 (by rw [← hv]; exact c84), by rw [← hxv]; exact b_t c95, Or.inl (by rw [← hxv]; exact c100)⟩)) | exact J117 _ (bvT (byB_s.mpr ⟨bv_1 (by rw [← hv]; exact c84), by rw [← hxv]; exact b_t c95, Or.inr (b_t c109)⟩)) | exact J117 _ (bvF (fun z => (byB_s.mp z).2.2.elim (fun h => c100 (by rw [hxv]; exact h)) (b_f c109))) | exact J117 _ (bvF (fun z => b_f c95 (by rw [hxv]; exact (byB_s.mp z).2.1))) | exact J117 _ (bvF (fun z => by have h9 := bv_0 (hv.symm.trans c84); rw [(byB_s.mp z).1] at h9; cases h9))
              · refine x_iload dX11_buy_98 rfl ?_
                refine x_if_eq (tgt := 112) dX11_buy_100 rfl (fun c100 => ?_) (fun c100 => ?_)
                · refine x_iconst (v := 1) dX11_buy_112 (by decide) ?_
                  refine x_goto (tgt := 117) dX11_buy_113 rfl ?_
                  first | exact J117 _ (bvT (byB_s.mpr ⟨bv_1 (by rw [← hv]; exact c84), by rw [← hxv]; exact b_t c95, Or.inl (by rw [← hxv]; exact c100)⟩)) | exact J117 _ (bvT (byB_s.mpr ⟨bv_1 (by rw [← hv]; exact c84), by rw [← hxv]; exact b_t c95, Or.inr (b_t c109)⟩)) | exact J117 _ (bvF (fun z => (byB_s.mp z).2.2.elim (fun h => c100 (by rw [hxv]; exact h)) (b_f c109))) | exact J117 _ (bvF (fun z => b_f c95 (by rw [hxv]; exact (byB_s.mp z).2.1))) | exact J117 _ (bvF (fun z => by have h9 := bv_0 (hv.symm.trans c84); rw [(byB_s.mp z).1] at h9; cases h9))
                · refine x_aload_n dX11_buy_103 rfl ?_
                  refine x_iload dX11_buy_104 rfl ?_
                  refine x_callV (k2 := 0) (n2 := 0) dX11_buy_106 LV_M_161 (r_isCoin hx hR.nn0) rfl rfl (fxo_127 hx) rfl (Nat.le_of_ble_eq_true rfl) (Nat.le_of_ble_eq_true rfl) (Nat.le_of_ble_eq_true rfl) (Nat.le_of_ble_eq_true rfl) ?_
                  rintro _ _ ⟨rfl, rfl⟩
                  refine x_if_eq (tgt := 116) dX11_buy_109 rfl (fun c109 => ?_) (fun c109 => ?_)
                  · refine x_iconst (v := 0) dX11_buy_116 (by decide) ?_
                    first | exact J117 _ (bvT (byB_s.mpr ⟨bv_1 (by rw [← hv]; exact c84), by rw [← hxv]; exact b_t c95, Or.inl (by rw [← hxv]; exact c100)⟩)) | exact J117 _ (bvT (byB_s.mpr ⟨bv_1 (by rw [← hv]; exact c84), by rw [← hxv]; exact b_t c95, Or.inr (b_t c109)⟩)) | exact J117 _ (bvF (fun z => (byB_s.mp z).2.2.elim (fun h => c100 (by rw [hxv]; exact h)) (b_f c109))) | exact J117 _ (bvF (fun z => b_f c95 (by rw [hxv]; exact (byB_s.mp z).2.1))) | exact J117 _ (bvF (fun z => by have h9 := bv_0 (hv.symm.trans c84); rw [(byB_s.mp z).1] at h9; cases h9))
                  · refine x_iconst (v := 1) dX11_buy_112 (by decide) ?_
                    refine x_goto (tgt := 117) dX11_buy_113 rfl ?_
                    first | exact J117 _ (bvT (byB_s.mpr ⟨bv_1 (by rw [← hv]; exact c84), by rw [← hxv]; exact b_t c95, Or.inl (by rw [← hxv]; exact c100)⟩)) | exact J117 _ (bvT (byB_s.mpr ⟨bv_1 (by rw [← hv]; exact c84), by rw [← hxv]; exact b_t c95, Or.inr (b_t c109)⟩)) | exact J117 _ (bvF (fun z => (byB_s.mp z).2.2.elim (fun h => c100 (by rw [hxv]; exact h)) (b_f c109))) | exact J117 _ (bvF (fun z => b_f c95 (by rw [hxv]; exact (byB_s.mp z).2.1))) | exact J117 _ (bvF (fun z => by have h9 := bv_0 (hv.symm.trans c84); rw [(byB_s.mp z).1] at h9; cases h9))
          refine x_iload dX11_buy_48 rfl ?_
          refine x_if_ne (tgt := 57) dX11_buy_50 rfl (fun c50 => ?_) (fun c50 => ?_)
          · refine x_iload dX11_buy_57 rfl ?_
            refine x_iconst (v := 1) dX11_buy_59 (by decide) ?_
            refine x_icmp_ne (tgt := 67) dX11_buy_60 rfl (fun c60 => ?_) (fun c60 => ?_)
            · refine x_iload dX11_buy_67 rfl ?_
              refine x_iconst (v := 2) dX11_buy_69 (by decide) ?_
              refine x_icmp_ne (tgt := 78) dX11_buy_70 rfl (fun c70 => ?_) (fun c70 => ?_)
              · refine x_iload dX11_buy_78 rfl ?_
                first | exact J80 _ (by rw [show k = 0 from (nI_le0 (by omega)).mp (by rw [c50]; decide)]; rfl) | exact J80 _ (by unfold mk4; rw [if_neg (fun z => c50 (by rw [z]; rfl)), if_pos (by have := (nI_eqI (a := k) (b := 1) (by omega) (by decide)).mp c60; exact this)]) | exact J80 _ (by unfold mk4; rw [if_neg (fun z => c50 (by rw [z]; rfl)), if_neg (fun z => c60 (by rw [z]; rfl)), if_pos (by have := (nI_eqI (a := k) (b := 2) (by omega) (by decide)).mp c70; exact this)]) | exact J80 _ (by unfold mk4; rw [if_neg (fun z => c50 (by rw [z]; rfl)), if_neg (fun z => c60 (by rw [z]; rfl)), if_neg (fun z => c70 (by rw [z]; rfl))])
              · refine x_iload dX11_buy_73 rfl ?_
                refine x_goto (tgt := 80) dX11_buy_75 rfl ?_
                first | exact J80 _ (by rw [show k = 0 from (nI_le0 (by omega)).mp (by rw [c50]; decide)]; rfl) | exact J80 _ (by unfold mk4; rw [if_neg (fun z => c50 (by rw [z]; rfl)), if_pos (by have := (nI_eqI (a := k) (b := 1) (by omega) (by decide)).mp c60; exact this)]) | exact J80 _ (by unfold mk4; rw [if_neg (fun z => c50 (by rw [z]; rfl)), if_neg (fun z => c60 (by rw [z]; rfl)), if_pos (by have := (nI_eqI (a := k) (b := 2) (by omega) (by decide)).mp c70; exact this)]) | exact J80 _ (by unfold mk4; rw [if_neg (fun z => c50 (by rw [z]; rfl)), if_neg (fun z => c60 (by rw [z]; rfl)), if_neg (fun z => c70 (by rw [z]; rfl))])
            · refine x_iload_n dX11_buy_63 rfl ?_
              refine x_goto (tgt := 80) dX11_buy_64 rfl ?_
              first | exact J80 _ (by rw [show k = 0 from (nI_le0 (by omega)).mp (by rw [c50]; decide)]; rfl) | exact J80 _ (by unfold mk4; rw [if_neg (fun z => c50 (by rw [z]; rfl)), if_pos (by have := (nI_eqI (a := k) (b := 1) (by omega) (by decide)).mp c60; exact this)]) | exact J80 _ (by unfold mk4; rw [if_neg (fun z => c50 (by rw [z]; rfl)), if_neg (fun z => c60 (by rw [z]; rfl)), if_pos (by have := (nI_eqI (a := k) (b := 2) (by omega) (by decide)).mp c70; exact this)]) | exact J80 _ (by unfold mk4; rw [if_neg (fun z => c50 (by rw [z]; rfl)), if_neg (fun z => c60 (by rw [z]; rfl)), if_neg (fun z => c70 (by rw [z]; rfl))])
          · refine x_iload_n dX11_buy_53 rfl ?_
            refine x_goto (tgt := 80) dX11_buy_54 rfl ?_
            first | exact J80 _ (by rw [show k = 0 from (nI_le0 (by omega)).mp (by rw [c50]; decide)]; rfl) | exact J80 _ (by unfold mk4; rw [if_neg (fun z => c50 (by rw [z]; rfl)), if_pos (by have := (nI_eqI (a := k) (b := 1) (by omega) (by decide)).mp c60; exact this)]) | exact J80 _ (by unfold mk4; rw [if_neg (fun z => c50 (by rw [z]; rfl)), if_neg (fun z => c60 (by rw [z]; rfl)), if_pos (by have := (nI_eqI (a := k) (b := 2) (by omega) (by decide)).mp c70; exact this)]) | exact J80 _ (by unfold mk4; rw [if_neg (fun z => c50 (by rw [z]; rfl)), if_neg (fun z => c60 (by rw [z]; rfl)), if_neg (fun z => c70 (by rw [z]; rfl))])
    exact K42 _ 0 _ none (by decide) (by by_cases h : 0 ≤ p ∧ p ≤ 99; rw [if_pos h]; exact bvT (decide_eq_true h); rw [if_neg h]; exact bvF (fun z => h (of_decide_eq_true z))) (Nat.lt_succ_self _)
  · refine x_aload_n dX11_buy_5 rfl ?_
    refine y_getr dX11_buy_6 F_M_9 (fxo_127 hx) rfl (fxp_127_1 hx) ?_
    refine x_iconst (v := 3) dX11_buy_9 (by decide) ?_
    refine x_iconst (v := 0) dX11_buy_10 (by decide) ?_
    refine y_iastore dX11_buy_11 (fxk_128 hx) (vi (j := 3) rfl (by omega) (by decide)) (ci (j := 3) rfl (by omega)) ?_
    rw [xup_va]
    refine x_iconst (v := 0) dX11_buy_12 (by decide) ?_
    refine x_ireturn dX11_buy_13 rfl nb_int ?_
    exact ⟨_, by unfold a_buy; rw [if_pos c2], rfl, by rw [va_up_at]; unfold s_buy; rw [if_pos c2], xFrm.rf.up (l1 := [])⟩
