/-! the class: never -/
def smN (wn d : Nat → Nat) : Nat → Nat
  | 0 => 0
  | c + 1 => smN wn d c + d c * wn c
theorem smN_c {wn d d' : Nat → Nat} : ∀ m, (∀ j, j < m → d j = d' j) → smN wn d m = smN wn d' m
  | 0, _ => rfl
  | m + 1, h => by
    show smN wn d m + _ = smN wn d' m + _
    rw [smN_c m (fun j hj => h j (by omega)), h m (by omega)]
theorem smN_bd {wn d : Nat → Nat} : ∀ m, (∀ j, j < m → d j ≤ 9 ∧ wn j ≤ 2000) → smN wn d m ≤ m * 18000
  | 0, _ => Nat.zero_le _
  | m + 1, h => by
    have h1 := smN_bd m (fun j hj => h j (by omega))
    have h2 : d m * wn m ≤ 9 * 2000 := Nat.mul_le_mul (h m (by omega)).1 (h m (by omega)).2
    show smN wn d m + d m * wn m ≤ _
    omega
theorem smN_x {wn d : Nat → Nat} {v w : Nat → Int32} : ∀ m, (∀ j, j < m → v j = nI (d j) ∧ w j = nI (wn j)) → xSm v w 0 m = nI (smN wn d m)
  | 0, _ => rfl
  | m + 1, h => by
    rw [xSm_s, smN_x m (fun j hj => h j (by omega)), Nat.zero_add, (h m (by omega)).1, (h m (by omega)).2, pk_mul, nI_add]
    rfl
theorem smI_k {w : Nat} {B : Nat → Bool} : ∀ n p, smI w B n p = true ↔ ∃ k, k ≤ n ∧ k * w ≤ p ∧ B (p - k * w) = true
  | 0, p => by
    constructor
    · intro h; exact ⟨0, Nat.le_refl _, by omega, by rw [Nat.zero_mul, Nat.sub_zero]; exact h⟩
    · rintro ⟨k, hk, -, h2⟩
      have : k = 0 := by omega
      rw [this, Nat.zero_mul, Nat.sub_zero] at h2; exact h2
  | n + 1, p => by
    show (smI w B n p || (decide (w ≤ p) && smI w B n (p - w))) = true ↔ _
    rw [Bool.or_eq_true, Bool.and_eq_true, decide_eq_true_iff, smI_k n p, smI_k n (p - w)]
    constructor
    · rintro (⟨k, hk, h1, h2⟩ | ⟨h0, k, hk, h1, h2⟩)
      · exact ⟨k, by omega, h1, h2⟩
      · have e : (k + 1) * w = k * w + w := Nat.succ_mul k w
        refine ⟨k + 1, by omega, by omega, ?_⟩
        rw [e, show p - (k * w + w) = p - w - k * w by omega]; exact h2
    · rintro ⟨k, hk, h1, h2⟩
      by_cases hkn : k ≤ n
      · exact Or.inl ⟨k, hkn, h1, h2⟩
      · have e0 : k = n + 1 := by omega
        subst e0
        have e : (n + 1) * w = n * w + w := Nat.succ_mul n w
        rw [e] at h1 h2
        refine Or.inr ⟨by omega, n, Nat.le_refl _, by omega, ?_⟩
        rw [show p - w - n * w = p - (n * w + w) by omega]; exact h2
theorem smC_k {wn pu : Nat → Nat} : ∀ m p, smC wn pu m p = true ↔ ∃ d : Nat → Nat, (∀ j, j < m → d j ≤ pu j) ∧ smN wn d m = p
  | 0, p => by
    show (p == 0) = true ↔ _
    rw [beq_iff_eq]
    exact ⟨fun h => ⟨fun _ => 0, fun j hj => absurd hj (Nat.not_lt_zero j), h.symm⟩, fun ⟨_, _, h⟩ => h.symm⟩
  | m + 1, p => by
    show smI (wn m) (smC wn pu m) (pu m) p = true ↔ _
    rw [smI_k]
    constructor
    · rintro ⟨k, hk, h1, h2⟩
      obtain ⟨d, hd, hs⟩ := (smC_k m _).mp h2
      refine ⟨fun j => if j = m then k else d j, fun j hj => ?_, ?_⟩
      · by_cases hjm : j = m
        · show (if j = m then k else d j) ≤ _
          rw [if_pos hjm, hjm]; exact hk
        · show (if j = m then k else d j) ≤ _
          rw [if_neg hjm]; exact hd j (by omega)
      · show smN wn _ m + (if m = m then k else d m) * wn m = p
        rw [if_pos rfl, smN_c (d' := d) m (fun j hj => if_neg (by omega)), hs]; omega
    · rintro ⟨d, hd, hs⟩
      have hs2 : smN wn d m + d m * wn m = p := hs
      exact ⟨d m, hd m (by omega), by omega, (smC_k m _).mpr ⟨d, fun j hj => hd j (by omega), by omega⟩⟩
theorem dg_q {a l b : Nat} (h : b < l) : (a * l + b) / l = a ∧ (a * l + b) % l = b := by
  constructor
  · rw [Nat.mul_comm, Nat.mul_add_div (by omega), Nat.div_eq_of_lt h, Nat.add_zero]
  · rw [Nat.mul_comm, Nat.mul_add_mod, Nat.mod_eq_of_lt h]
/-- every row of digits is told by a number -/
theorem dg_ex {len d : Nat → Nat} (h : ∀ j, j < 4 → d j < len j) : ∃ i, i < sfx len 4 0 ∧ ∀ j, j < 4 → dgt len 4 i j = d j := by
  obtain ⟨a3, b3⟩ := dg_q (a := (d 0 * len 1 + d 1) * len 2 + d 2) (h 3 (by decide))
  obtain ⟨a2, b2⟩ := dg_q (a := d 0 * len 1 + d 1) (h 2 (by decide))
  obtain ⟨a1, b1⟩ := dg_q (a := d 0) (h 1 (by decide))
  generalize hi : ((d 0 * len 1 + d 1) * len 2 + d 2) * len 3 + d 3 = i at a3 b3
  have s4 : i / sfx len 4 4 = i := by rw [sfx_W, Nat.div_one]
  have s3 : i / sfx len 4 3 = (d 0 * len 1 + d 1) * len 2 + d 2 := by rw [sfx_d (by decide), s4, a3]
  have s2 : i / sfx len 4 2 = d 0 * len 1 + d 1 := by rw [sfx_d (by decide), s3, a2]
  have s1 : i / sfx len 4 1 = d 0 := by rw [sfx_d (by decide), s2, a1]
  have s0 : i / sfx len 4 0 = 0 := by rw [sfx_d (by decide), s1, Nat.div_eq_of_lt (h 0 (by decide))]
  have hp : 0 < sfx len 4 0 := by
    rw [sfx_s (by decide), sfx_s (by decide), sfx_s (by decide), sfx_s (by decide), sfx_W]
    have l0 := h 0 (by decide); have l1 := h 1 (by decide); have l2 := h 2 (by decide); have l3 := h 3 (by decide)
    exact Nat.mul_pos (Nat.zero_lt_of_lt l0) (Nat.mul_pos (Nat.zero_lt_of_lt l1) (Nat.mul_pos (Nat.zero_lt_of_lt l2) (Nat.mul_pos (Nat.zero_lt_of_lt l3) (by decide))))
  refine ⟨i, ?_, ?_⟩
  · exact (Nat.div_eq_zero_iff_lt hp).mp s0
  · intro j hj
    unfold dgt
    match j, hj with
    | 0, _ => rw [s1, Nat.mod_eq_of_lt (h 0 (by decide))]
    | 1, _ => rw [s2, b1]
    | 2, _ => rw [s3, b2]
    | 3, _ => rw [s4, b3]
def pyS (f : Nat → Nat) : Nat → Nat → Bool
  | 0 => fun _ => false
  | i + 1 => fun q => pyS f i q || f i == q
theorem pyS_k {f : Nat → Nat} : ∀ n q, pyS f n q = true ↔ ∃ i, i < n ∧ f i = q
  | 0, q => by
    constructor
    · intro h; exact Bool.noConfusion (show false = true from h)
    · rintro ⟨i, h, -⟩; exact absurd h (Nat.not_lt_zero i)
  | n + 1, q => by
    show (pyS f n q || f n == q) = true ↔ _
    rw [Bool.or_eq_true, beq_iff_eq, pyS_k n q]
    constructor
    · rintro (⟨i, h, e⟩ | e)
      · exact ⟨i, by omega, e⟩
      · exact ⟨n, by omega, e⟩
    · rintro ⟨i, h, e⟩
      by_cases hin : i = n
      · rw [hin] at e; exact Or.inr e
      · exact Or.inl ⟨i, by omega, e⟩
def nvL (s : Nat → Int32) : Nat → Nat := pyLn (cN s 0) 0 (puN s)
def nvS (s : Nat → Int32) (i : Nat) : Nat := smN (wnN s) (dgt (nvL s) 4 i) 4
theorem nvL_e {s : Nat → Int32} {c : Nat} : nvL s c = puN s c + 1 := by
  show bkN (cN s 0) 0 c + puN s c + 1 = _
  have : bkN (cN s 0) 0 c = 0 := by unfold bkN; by_cases h : c < cN s 0; rw [if_pos h]; rw [if_neg h]
  rw [this, Nat.zero_add]
theorem nv_dg {s : Nat → Int32} {i c : Nat} : dgt (nvL s) 4 i c ≤ puN s c := by
  have : dgt (nvL s) 4 i c < nvL s c := Nat.mod_lt _ (by rw [nvL_e]; omega)
  rw [nvL_e] at this; omega
theorem nvS_e {s : Nat → Int32} (hR : RI s) {i : Nat} : smV (pwV s (puN s)) (pyV (cN s 0) 0 (puN s) i) = nI (nvS s i) ∧ nvS s i ≤ 72000 := by
  constructor
  · refine smN_x 4 (fun j hj => ⟨?_, ?_⟩)
    · show pyB (cN s 0) 0 j + nI (dgt (nvL s) 4 i j) = _
      have : pyB (cN s 0) 0 j = 0 := by unfold pyB; by_cases h : j < cN s 0; rw [if_pos h]; rfl; rw [if_neg h]
      rw [this, Int32.zero_add]
    · rw [pwV_s hR]; exact (wv_bd hR j).1
  · exact smN_bd 4 (fun j hj => ⟨Nat.le_trans nv_dg (puN_bd hR j), (wv_bd hR j).2.1⟩)
theorem nv_br {s : Nat → Int32} {q : Nat} : pyS (nvS s) (sfx (nvL s) 4 0) q = smC (wnN s) (puN s) 4 q := by
  rw [Bool.eq_iff_iff, pyS_k, smC_k]
  constructor
  · rintro ⟨i, -, e⟩
    exact ⟨dgt (nvL s) 4 i, fun j _ => nv_dg, e⟩
  · rintro ⟨d, hd, e⟩
    obtain ⟨i, hi, h⟩ := dg_ex (len := nvL s) (d := d) (fun j hj => by rw [nvL_e]; have := hd j hj; omega)
    exact ⟨i, hi, by show smN _ _ 4 = q; rw [smN_c (d' := d) 4 h, e]⟩
set_option maxHeartbeats 4000000 in
set_option maxRecDepth 100000 in
theorem m_Payer_leastUnpayable {g : xG} {nx : Nat} {sh : Nat → Nat × Nat} {P : Nat → Nat → Option Nat} {I : Nat → Nat → Int32} (hx : xFx sh P) {s : Nat → Int32} (hW : xWN nx sh P I s) (hR : RI s) (hpy : xPy I s (puN s)) : xMet g Y_Payer_leastUnpayable 2 0 0 [.ref 109] (nx, sh, P, I) (fun r σ => ∃ I1 : Nat → Nat → Int32, r = some (.int (a_never s)) ∧ σ = (nx, sh, P, I1) ∧ xFrm [113, 114, 115, 117] I I1) := by
  refine xMet.of [some (.ref 109), none, none, none] (by decide +kernel) (Nat.le_of_ble_eq_true rfl) rfl ?_
  obtain ⟨⟨tTape, tCoins, tWares, tBuys, tSlates, tPlans, tBooked⟩, ⟨cTape, cCoins, cWares, cBuys, cSlates, cPlans, cBooked⟩, hW7, hW9, hL⟩ := id hW
  obtain ⟨⟨n0, b0, e0⟩, ⟨n1, b1, e1⟩, ⟨n2, b2, e2⟩, ⟨n3, b3, e3⟩, ⟨n4, b4, e4⟩, ⟨n5, b5, e5⟩, ⟨n6, b6, e6⟩, ⟨n7, b7, e7⟩, ⟨n9, b9, e9⟩⟩ := hR.k
  have k7 : cN s 7 = n7 := cN_of e7 (by omega)
  rw [k7] at tTape cTape
  have k0 : cN s 0 = n0 := cN_of e0 (by omega)
  rw [k0] at tCoins cCoins
  have k1 : cN s 1 = n1 := cN_of e1 (by omega)
  rw [k1] at tWares cWares
  have k3 : cN s 3 = n3 := cN_of e3 (by omega)
  rw [k3] at tBuys cBuys
  have k4 : cN s 4 = n4 := cN_of e4 (by omega)
  rw [k4] at tSlates cSlates
  have k5 : cN s 5 = n5 := cN_of e5 (by omega)
  rw [k5] at tPlans cPlans
  have k6 : cN s 6 = n6 := cN_of e6 (by omega)
  rw [k6] at tBooked cBooked
  refine x_iconst (v := 0) dX5_leastUnpayable_0 (by decide) ?_
  refine x_istore_n dX5_leastUnpayable_1 (Nat.le_of_ble_eq_true rfl) ?_
  try simp only [xst, xst2, xclr, xset, xwide]
  have K2 : ∀ (fuel : Nat) (p : Nat) (I2 : Nat → Nat → Int32) (hp : p ≤ 100) (hF : xFrm [117] I I2) (hT : ∀ q, q < p → I2 117 q = 0), 100 - p < fuel → xX g Y_Payer_leastUnpayable 2 0 0 (fun r σ => ∃ I1 : Nat → Nat → Int32, r = some (.int (a_never s)) ∧ σ = (nx, sh, P, I1) ∧ xFrm [113, 114, 115, 117] I I1) 2 [some (.ref 109), some (.int (nI p)), none, none] [] (nx, sh, P, I2) := by
    intro fuel
    induction fuel with
    | zero => intro p I2 hp hF hT hm; exact absurd hm (Nat.not_lt_zero _)
    | succ fuel ih2 =>
      intro p I2 hp hF hT hm
      refine x_iload_n dX5_leastUnpayable_2 rfl ?_
      refine x_aload_n dX5_leastUnpayable_3 rfl ?_
      refine y_getr dX5_leastUnpayable_4 F_Payer_30 (fxo_109 hx) rfl (fxp_109_5 hx) ?_
      refine y_alen dX5_leastUnpayable_7 (fxk_117 hx) (by decide) ?_
      refine x_icmp_ge (tgt := 24) dX5_leastUnpayable_8 rfl (fun c8 => ?_) (fun c8 => ?_)
      · have hie : p = 100 := cge_t (by decide) hp c8
        subst hie
        refine x_aload_n dX5_leastUnpayable_24 rfl ?_
        refine x_iconst (v := 0) dX5_leastUnpayable_25 (by decide) ?_
        refine x_callV (k2 := 0) (n2 := 0) dX5_leastUnpayable_26 LV_Payer_73 (m_Payer_start (I := I2) hx (hW.fl hF) hR (back := 0) (by decide) (fun c hc => ⟨by rw [hF 110 (by decide)]; exact (hpy c hc).1, (hpy c hc).2.1⟩)) rfl rfl (fxo_109 hx) rfl (Nat.le_of_ble_eq_true rfl) (Nat.le_of_ble_eq_true rfl) (Nat.le_of_ble_eq_true rfl) (Nat.le_of_ble_eq_true rfl) ?_
        rintro _ _ ⟨I1, rfl, rfl, hF1, hb1, hr1⟩
        have hF1' : xFrm [113, 114, 115, 117] I I1 := hF.tr (l1 := [117]) (l2 := [113, 114, 115]) hF1
        have hN9 := py_n (n := cN s 0) (back := 0) (pu := puN s) (by decide) (fun c hc => (hpy c hc).2.1)
        change sfx (nvL s) 4 0 ≤ 28561 at hN9
        refine x_istore_n dX5_leastUnpayable_29 (Nat.le_of_ble_eq_true rfl) ?_
        try simp only [xst, xst2, xclr, xset, xwide]
        show xX _ _ _ _ _ _ _ [some (.ref 109), some (.int (nI (sfx (nvL s) 4 0))), none, none] _ _
        refine x_iconst (v := 0) dX5_leastUnpayable_30 (by decide) ?_
        refine x_istore_n dX5_leastUnpayable_31 (Nat.le_of_ble_eq_true rfl) ?_
        try simp only [xst, xst2, xclr, xset, xwide]
        have K32 : ∀ (fuel : Nat) (i : Nat) (v3 : Option Value) (I3 : Nat → Nat → Int32) (hi : i ≤ (sfx (nvL s) 4 0)) (hF : xFrm [113, 114, 115, 117] I I3) (hb : ∀ c, c < 4 → I3 113 c = pyB (cN s 0) 0 c ∧ I3 114 c = nI (puN s c)) (hr : xRwAt (I3 113) (pyLn (cN s 0) 0 (puN s)) 4 i (I3 115)) (hT : ∀ q, q < 100 → I3 117 q = bv (pyS (nvS s) i q)), (sfx (nvL s) 4 0) - i < fuel → xX g Y_Payer_leastUnpayable 2 0 0 (fun r σ => ∃ I1 : Nat → Nat → Int32, r = some (.int (a_never s)) ∧ σ = (nx, sh, P, I1) ∧ xFrm [113, 114, 115, 117] I I1) 32 [some (.ref 109), some (.int (nI (sfx (nvL s) 4 0))), some (.int (nI i)), v3] [] (nx, sh, P, I3) := by
          intro fuel
          induction fuel with
          | zero => intro i v3 I3 hi hF hb hr hT hm; exact absurd hm (Nat.not_lt_zero _)
          | succ fuel ih32 =>
            intro i v3 I3 hi hF hb hr hT hm
            have hat := py_at hb hr
            have e111 : ∀ j, j < 4 → I3 111 j = pwV s (puN s) j := fun j hj => by rw [hF 111 (by decide)]; exact (hpy j hj).2.2
            have hsm : xSm (I3 115) (I3 111) 0 4 = nI (nvS s i) := (xSm_c 4 (fun j hj => by rw [Nat.zero_add]; exact hat j hj) e111).trans (nvS_e hR).1
            have hsb : nvS s i ≤ 72000 := (nvS_e hR).2
            have hlh := py_lh (by decide) hb (fun c hc => (hpy c hc).2.1)
            refine x_iload_n dX5_leastUnpayable_32 rfl ?_
            refine x_iload_n dX5_leastUnpayable_33 rfl ?_
            refine x_icmp_ge (tgt := 82) dX5_leastUnpayable_34 rfl (fun c34 => ?_) (fun c34 => ?_)
            · have hie : i = (sfx (nvL s) 4 0) := cge_t (by omega) hi c34
              refine x_iconst (v := 1) dX5_leastUnpayable_82 (by decide) ?_
              refine x_istore_n dX5_leastUnpayable_83 (Nat.le_of_ble_eq_true rfl) ?_
              try simp only [xst, xst2, xclr, xset, xwide]
              have K84 : ∀ (fuel : Nat) (p : Nat) (hp : p ≤ 100) (hp1 : 1 ≤ p) (hfm : fmS (smC (wnN s) (puN s) 4) 99 1 = fmS (smC (wnN s) (puN s) 4) (100 - p) p), 100 - p < fuel → xX g Y_Payer_leastUnpayable 2 0 0 (fun r σ => ∃ I1 : Nat → Nat → Int32, r = some (.int (a_never s)) ∧ σ = (nx, sh, P, I1) ∧ xFrm [113, 114, 115, 117] I I1) 84 [some (.ref 109), some (.int (nI (sfx (nvL s) 4 0))), some (.int (nI p)), v3] [] (nx, sh, P, I3) := by
                intro fuel
                induction fuel with
                | zero => intro p hp hp1 hfm hm; exact absurd hm (Nat.not_lt_zero _)
                | succ fuel ih84 =>
                  intro p hp hp1 hfm hm
                  refine x_iload_n dX5_leastUnpayable_84 rfl ?_
                  refine x_aload_n dX5_leastUnpayable_85 rfl ?_
                  refine y_getr dX5_leastUnpayable_86 F_Payer_30 (fxo_109 hx) rfl (fxp_109_5 hx) ?_
                  refine y_alen dX5_leastUnpayable_89 (fxk_117 hx) (by decide) ?_
                  refine x_icmp_ge (tgt := 110) dX5_leastUnpayable_90 rfl (fun c90 => ?_) (fun c90 => ?_)
                  · have hie2 : p = 100 := cge_t (by decide) hp c90
                    subst hie2
                    refine x_bipush (v := (-5)) dX5_leastUnpayable_110 (by decide) ?_
                    refine x_ireturn dX5_leastUnpayable_112 rfl nb_int ?_
                    exact ⟨I3, by unfold a_never; rw [hfm]; rfl, rfl, hF⟩
                  · have hip : p < 100 := cge_f (by decide) hp c90
                    have hst : fmS (smC (wnN s) (puN s) 4) (100 - p) p = if smC (wnN s) (puN s) 4 p = true then fmS (smC (wnN s) (puN s) 4) (100 - (p + 1)) (p + 1) else nI p := by rw [show 100 - p = (100 - (p + 1)) + 1 by omega]; rfl
                    have hTp : I3 117 p = bv (smC (wnN s) (puN s) 4 p) := by rw [hT p hip, hie, nv_br]
                    refine x_aload_n dX5_leastUnpayable_93 rfl ?_
                    refine y_getr dX5_leastUnpayable_94 F_Payer_30 (fxo_109 hx) rfl (fxp_109_5 hx) ?_
                    refine x_iload_n dX5_leastUnpayable_97 rfl ?_
                    refine y_zaload dX5_leastUnpayable_98 (fxk_117 hx) (vi rfl hip (by decide)) (rI (j := p) (ci rfl (by omega)) hTp) ?_
                    refine x_if_ne (tgt := 104) dX5_leastUnpayable_99 rfl (fun c99 => ?_) (fun c99 => ?_)
                    · refine x_iinc (v := (nI (p + 1))) dX5_leastUnpayable_104 rfl (nI_1 _) (Nat.le_of_ble_eq_true rfl) ?_
                      try simp only [xst, xst2, xclr, xset, xwide]
                      refine x_goto (tgt := 84) dX5_leastUnpayable_107 rfl ?_
                      exact ih84 (p + 1) (by omega) (by omega) (by rw [hfm, hst, if_pos (bv_1 c99)]) (by omega)
                    · refine x_iload_n dX5_leastUnpayable_102 rfl ?_
                      refine x_ireturn dX5_leastUnpayable_103 rfl nb_int ?_
                      exact ⟨I3, by unfold a_never; rw [hfm, hst, if_neg (by rw [bv_0 c99]; decide)], rfl, hF⟩
              exact K84 _ 1 (by decide) (by decide) rfl (Nat.lt_succ_self _)
            · have him : i < (sfx (nvL s) 4 0) := cge_f (by omega) hi c34
              refine x_aload_n dX5_leastUnpayable_37 rfl ?_
              refine y_getr dX5_leastUnpayable_38 F_Payer_23 (fxo_109 hx) rfl (fxp_109_3 hx) ?_
              refine x_aload_n dX5_leastUnpayable_41 rfl ?_
              refine y_getr dX5_leastUnpayable_42 F_Payer_15 (fxo_109 hx) rfl (fxp_109_2 hx) ?_
              refine x_callV (k2 := 0) (n2 := 0) dX5_leastUnpayable_45 LV_Payer_76 (m_Rows_sum (I := I3) (xrP hx) (fxk_111 hx)) rfl rfl (fxo_112 hx) rfl (Nat.le_of_ble_eq_true rfl) (Nat.le_of_ble_eq_true rfl) (Nat.le_of_ble_eq_true rfl) (Nat.le_of_ble_eq_true rfl) ?_
              rintro _ _ ⟨rfl, rfl⟩
              rw [hsm]
              have J69 : ∀ (I6 : Nat → Nat → Int32) (hF6 : xFrm [113, 114, 115, 117] I I6) (z1 : I6 113 = I3 113) (z2 : I6 114 = I3 114) (z3 : I6 115 = I3 115) (hT6 : ∀ q, q < 100 → I6 117 q = bv (pyS (nvS s) (i + 1) q)), xX g Y_Payer_leastUnpayable 2 0 0 (fun r σ => ∃ I1 : Nat → Nat → Int32, r = some (.int (a_never s)) ∧ σ = (nx, sh, P, I1) ∧ xFrm [113, 114, 115, 117] I I1) 69 [some (.ref 109), some (.int (nI (sfx (nvL s) 4 0))), some (.int (nI i)), some (.int (nI (nvS s i)))] [] (nx, sh, P, I6) := by
                intro I6 hF6 z1 z2 z3 hT6
                refine x_aload_n dX5_leastUnpayable_69 rfl ?_
                refine y_getr dX5_leastUnpayable_70 F_Payer_23 (fxo_109 hx) rfl (fxp_109_3 hx) ?_
                refine x_callV (k2 := 0) (n2 := 0) dX5_leastUnpayable_73 LV_Payer_87 (m_Rows_step (I := I6) (xrP hx)) rfl rfl (fxo_112 hx) rfl (Nat.le_of_ble_eq_true rfl) (Nat.le_of_ble_eq_true rfl) (Nat.le_of_ble_eq_true rfl) (Nat.le_of_ble_eq_true rfl) ?_
                rintro _ _ ⟨rfl, rfl⟩
                refine x_iinc (v := (nI (i + 1))) dX5_leastUnpayable_76 rfl (nI_1 _) (Nat.le_of_ble_eq_true rfl) ?_
                try simp only [xst, xst2, xclr, xset, xwide]
                refine x_goto (tgt := 32) dX5_leastUnpayable_79 rfl ?_
                exact ih32 (i + 1) _ _ (by omega) (xFrv hF6) (fun c hc => by rw [va_up_no (by decide), va_up_no (by decide), z1, z2]; exact hb c hc) (by rw [va_up_no (by decide), va_up_at, z1, z2, z3]; exact xRwAt.st hlh hr) (fun q hq => by rw [va_up_no (by decide)]; exact hT6 q hq) (by omega)
              refine x_istore_n dX5_leastUnpayable_48 (Nat.le_of_ble_eq_true rfl) ?_
              try simp only [xst, xst2, xclr, xset, xwide]
              refine x_iload_n dX5_leastUnpayable_49 rfl ?_
              refine x_if_lt (tgt := 69) dX5_leastUnpayable_50 rfl (fun c50 => ?_) (fun c50 => ?_)
              · exact absurd c50 (nI_pos (by omega))
              · refine x_iload_n dX5_leastUnpayable_53 rfl ?_
                refine x_aload_n dX5_leastUnpayable_54 rfl ?_
                refine y_getr dX5_leastUnpayable_55 F_Payer_30 (fxo_109 hx) rfl (fxp_109_5 hx) ?_
                refine y_alen dX5_leastUnpayable_58 (fxk_117 hx) (by decide) ?_
                refine x_icmp_ge (tgt := 69) dX5_leastUnpayable_59 rfl (fun c59 => ?_) (fun c59 => ?_)
                · have hge : 100 ≤ nvS s i := (nI_leI (by decide) (by omega)).mp c59
                  exact J69 I3 hF rfl rfl rfl (fun q hq => by rw [hT q hq]; show _ = bv (pyS (nvS s) i q || nvS s i == q); rw [show (nvS s i == q) = false from beq_eq_false_iff_ne.mpr (by omega), Bool.or_false])
                · have hlt : nvS s i < 100 := Nat.not_le.mp (fun y => c59 (nI_le y (by omega)))
                  refine x_aload_n dX5_leastUnpayable_62 rfl ?_
                  refine y_getr dX5_leastUnpayable_63 F_Payer_30 (fxo_109 hx) rfl (fxp_109_5 hx) ?_
                  refine x_iload_n dX5_leastUnpayable_66 rfl ?_
                  refine x_iconst (v := 1) dX5_leastUnpayable_67 (by decide) ?_
                  refine y_zastore dX5_leastUnpayable_68 (fxk_117 hx) (vi rfl hlt (by decide)) rfl (ci rfl (by omega)) ?_
                  exact J69 _ (xFrs hF) (xup_n (by decide)) (xup_n (by decide)) (xup_n (by decide)) (fun q hq => by
                    rw [xup_at]
                    show _ = bv (pyS (nvS s) i q || nvS s i == q)
                    by_cases h : q = nvS s i
                    · rw [if_pos ⟨rfl, h⟩, h, beq_self_eq_true, Bool.or_true]; rfl
                    · rw [if_neg (fun z => h z.2), hT q hq, show (nvS s i == q) = false from beq_eq_false_iff_ne.mpr (fun z => h z.symm), Bool.or_false])
        exact K32 _ 0 none I1 (Nat.zero_le _) hF1' hb1 hr1 (fun q hq => by rw [hF1 117 (by decide)]; exact hT q hq) (Nat.lt_succ_self _)
      · have him : p < 100 := cge_f (by decide) hp c8
        refine x_aload_n dX5_leastUnpayable_11 rfl ?_
        refine y_getr dX5_leastUnpayable_12 F_Payer_30 (fxo_109 hx) rfl (fxp_109_5 hx) ?_
        refine x_iload_n dX5_leastUnpayable_15 rfl ?_
        refine x_iconst (v := 0) dX5_leastUnpayable_16 (by decide) ?_
        refine y_zastore dX5_leastUnpayable_17 (fxk_117 hx) (vi rfl him (by decide)) rfl (ci rfl (by omega)) ?_
        refine x_iinc (v := (nI (p + 1))) dX5_leastUnpayable_18 rfl (nI_1 _) (Nat.le_of_ble_eq_true rfl) ?_
        try simp only [xst, xst2, xclr, xset, xwide]
        refine x_goto (tgt := 2) dX5_leastUnpayable_21 rfl ?_
        exact ih2 (p + 1) _ (by omega) (xFrs hF) (fun q hq => by
          rw [xup_at]
          by_cases h : q = p
          · rw [if_pos ⟨rfl, h⟩]
          · rw [if_neg (fun z => h z.2)]; exact hT q (by omega)) (by omega)
  exact K2 _ 0 I (by decide) xFrm.rf (fun q h => absurd h (Nat.not_lt_zero q)) (Nat.lt_succ_self _)

set_option maxHeartbeats 4000000 in
set_option maxRecDepth 100000 in
theorem m_C_never {g : xG} {nx : Nat} {sh : Nat → Nat × Nat} {P : Nat → Nat → Option Nat} {I : Nat → Nat → Int32} (hx : xFx sh P) {s : Nat → Int32} (hW : xWN nx sh P I s) (hR : RI s)  : xMet g Y_C_never 6 0 0 [.ref 64] (nx, sh, P, I) (fun r σ => ∃ I1 : Nat → Nat → Int32, r = some (.int (a_never s)) ∧ σ = (nx, sh, P, I1) ∧ xFrm [80, 110, 111, 113, 114, 115, 117] I I1) := by
  refine xMet.of [some (.ref 64)] (by decide +kernel) (Nat.le_of_ble_eq_true rfl) rfl ?_
  obtain ⟨⟨tTape, tCoins, tWares, tBuys, tSlates, tPlans, tBooked⟩, ⟨cTape, cCoins, cWares, cBuys, cSlates, cPlans, cBooked⟩, hW7, hW9, hL⟩ := id hW
  obtain ⟨⟨n0, b0, e0⟩, ⟨n1, b1, e1⟩, ⟨n2, b2, e2⟩, ⟨n3, b3, e3⟩, ⟨n4, b4, e4⟩, ⟨n5, b5, e5⟩, ⟨n6, b6, e6⟩, ⟨n7, b7, e7⟩, ⟨n9, b9, e9⟩⟩ := hR.k
  have k7 : cN s 7 = n7 := cN_of e7 (by omega)
  rw [k7] at tTape cTape
  have k0 : cN s 0 = n0 := cN_of e0 (by omega)
  rw [k0] at tCoins cCoins
  have k1 : cN s 1 = n1 := cN_of e1 (by omega)
  rw [k1] at tWares cWares
  have k3 : cN s 3 = n3 := cN_of e3 (by omega)
  rw [k3] at tBuys cBuys
  have k4 : cN s 4 = n4 := cN_of e4 (by omega)
  rw [k4] at tSlates cSlates
  have k5 : cN s 5 = n5 := cN_of e5 (by omega)
  rw [k5] at tPlans cPlans
  have k6 : cN s 6 = n6 := cN_of e6 (by omega)
  rw [k6] at tBooked cBooked
  refine x_aload_n dX10_never_0 rfl ?_
  refine y_getr dX10_never_1 F_C_50 (fxo_64 hx) rfl (fxp_64_5 hx) ?_
  refine x_callV (k2 := 0) (n2 := 0) dX10_never_4 LV_C_137 (m_Payer_openPurse hx hW hR) rfl rfl (fxo_109 hx) rfl (Nat.le_of_ble_eq_true rfl) (Nat.le_of_ble_eq_true rfl) (Nat.le_of_ble_eq_true rfl) (Nat.le_of_ble_eq_true rfl) ?_
  rintro _ _ ⟨I1, rfl, rfl, hF1, hpy⟩
  have hW1 := hW.fl hF1
  refine x_aload_n dX10_never_7 rfl ?_
  refine y_getr dX10_never_8 F_C_50 (fxo_64 hx) rfl (fxp_64_5 hx) ?_
  refine x_callV (k2 := 0) (n2 := 0) dX10_never_11 LV_C_197 (m_Payer_leastUnpayable (I := I1) hx hW1 hR hpy) rfl rfl (fxo_109 hx) rfl (Nat.le_of_ble_eq_true rfl) (Nat.le_of_ble_eq_true rfl) (Nat.le_of_ble_eq_true rfl) (Nat.le_of_ble_eq_true rfl) ?_
  rintro _ _ ⟨I2, rfl, rfl, hF2⟩
  have hF : xFrm [80, 110, 111, 113, 114, 115, 117] I I2 := hF1.tr (l1 := [80, 110, 111]) (l2 := [113, 114, 115, 117]) hF2
  refine x_ireturn dX10_never_14 rfl nb_int ?_
  exact ⟨I2, rfl, rfl, hF⟩
