/-! the reference: fractions, odds, lasting, looked, acts -/
theorem lcmp0 {x : Int64} : lg_cmp x 0 = 0 ↔ x = 0 := by
  unfold lg_cmp
  by_cases h1 : x > 0
  · rw [if_pos h1]
    constructor
    · intro h; exact absurd h (by decide)
    · intro h; rw [h] at h1; exact absurd h1 (by decide)
  · rw [if_neg h1]
    by_cases h2 : x = 0
    · rw [if_pos h2]; exact ⟨fun _ => h2, fun _ => rfl⟩
    · rw [if_neg h2]; exact ⟨fun h => absurd h (by decide), fun h => absurd h h2⟩
/-- a part of a fraction in lowest terms -/
def frL (u l : Nat) (part : Int32) : Int64 := lN ((if part = 0 then u else l) / Nat.gcd u l)

set_option maxHeartbeats 4000000 in
set_option maxRecDepth 100000 in
theorem r_lowest {g : xG} {nx : Nat} {sh : Nat → Nat × Nat} {P : Nat → Nat → Option Nat} {I : Nat → Nat → Int32} {u l : Nat} {part : Int32} (hu : u < 2 ^ 31) (hl : l < 2 ^ 31) (hl0 : 0 < l) : xMet g Y_M_lowest 0 0 0 [.long (lN u), .long (lN l), .int part] (nx, sh, P, I) (fun r σ => r = some (.long (frL u l part)) ∧ σ = (nx, sh, P, I)) := by
  refine xMet.of [some (.long (lN u)), none, some (.long (lN l)), none, some (.int part), none, none, none, none, none, none] (by decide +kernel) (Nat.le_of_ble_eq_true rfl) rfl ?_
  refine x_lload_n dX11_lowest_0 rfl ?_
  refine x_lstore dX11_lowest_1 (Nat.le_of_ble_eq_true rfl) ?_
  try simp only [xst, xst2, xclr, xset, xwide]
  refine x_lload_n dX11_lowest_3 rfl ?_
  refine x_lstore dX11_lowest_4 (Nat.le_of_ble_eq_true rfl) ?_
  try simp only [xst, xst2, xclr, xset, xwide]
  have K6 : ∀ (fuel : Nat) (a b : Nat) (v9 v10 : Option Value) (ha : a < 2 ^ 31) (hb : b < 2 ^ 31) (hg : Nat.gcd a b = Nat.gcd u l), b < fuel → xX g Y_M_lowest 0 0 0 (fun r σ => r = some (.long (frL u l part)) ∧ σ = (nx, sh, P, I)) 6 [some (.long (lN u)), none, some (.long (lN l)), none, some (.int part), some (.long (lN a)), none, some (.long (lN b)), none, v9, v10] [] (nx, sh, P, I) := by
    intro fuel
    induction fuel with
    | zero => intro a b v9 v10 ha hb hg hm; exact absurd hm (Nat.not_lt_zero _)
    | succ fuel ih6 =>
      intro a b v9 v10 ha hb hg hm
      refine x_lload dX11_lowest_6 rfl ?_
      refine x_lconst (v := 0) dX11_lowest_8 (by decide) ?_
      refine x_lcmp dX11_lowest_9 ?_
      refine x_if_eq (tgt := 31) dX11_lowest_10 rfl (fun c10 => ?_) (fun c10 => ?_)
      · have hb0 : b = 0 := (pk_lEQ (b := 0) (by omega) (by decide)).mp (lcmp0.mp c10)
        subst hb0
        rw [Nat.gcd_zero_right] at hg
        refine x_iload dX11_lowest_31 rfl ?_
        refine x_if_ne (tgt := 40) dX11_lowest_33 rfl (fun c33 => ?_) (fun c33 => ?_)
        · refine x_lload_n dX11_lowest_40 rfl ?_
          refine x_lload dX11_lowest_41 rfl ?_
          refine x_ldiv dX11_lowest_43 (fun z => by have h9 := (pk_lEQ (b := 0) (by omega) (by decide)).mp z; have h8 := Nat.gcd_pos_of_pos_right u hl0; omega) ?_
          refine x_lreturn dX11_lowest_44 rfl ?_
          subst hg
          have h8 := Nat.gcd_pos_of_pos_right u hl0
          first | exact ⟨by unfold frL; rw [if_pos c33, pk_lDiv (by omega) h8 (by omega)], rfl⟩ | exact ⟨by unfold frL; rw [if_neg c33, pk_lDiv (by omega) h8 (by omega)], rfl⟩
        · refine x_lload_n dX11_lowest_36 rfl ?_
          refine x_goto (tgt := 41) dX11_lowest_37 rfl ?_
          refine x_lload dX11_lowest_41 rfl ?_
          refine x_ldiv dX11_lowest_43 (fun z => by have h9 := (pk_lEQ (b := 0) (by omega) (by decide)).mp z; have h8 := Nat.gcd_pos_of_pos_right u hl0; omega) ?_
          refine x_lreturn dX11_lowest_44 rfl ?_
          subst hg
          have h8 := Nat.gcd_pos_of_pos_right u hl0
          first | exact ⟨by unfold frL; rw [if_pos c33, pk_lDiv (by omega) h8 (by omega)], rfl⟩ | exact ⟨by unfold frL; rw [if_neg c33, pk_lDiv (by omega) h8 (by omega)], rfl⟩
      · have hb0 : 0 < b := by
          rcases Nat.eq_zero_or_pos b with z | z
          · subst z; exact absurd (lcmp0.mpr rfl) c10
          · exact z
        refine x_lload dX11_lowest_13 rfl ?_
        refine x_lload dX11_lowest_15 rfl ?_
        refine x_lrem dX11_lowest_17 (fun z => by have := (pk_lEQ (b := 0) (by omega) (by decide)).mp z; omega) ?_
        rw [pk_lRem (by omega) hb0 (by omega)]
        refine x_lstore dX11_lowest_18 (Nat.le_of_ble_eq_true rfl) ?_
        try simp only [xst, xst2, xclr, xset, xwide]
        refine x_lload dX11_lowest_20 rfl ?_
        refine x_lstore dX11_lowest_22 (Nat.le_of_ble_eq_true rfl) ?_
        try simp only [xst, xst2, xclr, xset, xwide]
        refine x_lload dX11_lowest_24 rfl ?_
        refine x_lstore dX11_lowest_26 (Nat.le_of_ble_eq_true rfl) ?_
        try simp only [xst, xst2, xclr, xset, xwide]
        refine x_goto (tgt := 6) dX11_lowest_28 rfl ?_
        exact ih6 b (a % b) _ _ hb (Nat.lt_trans (Nat.mod_lt _ hb0) hb) (by rw [← hg, Nat.gcd_comm a b, Nat.gcd_rec b a, Nat.gcd_comm]) (by have := Nat.mod_lt a hb0; omega)
  exact K6 _ u l none none hu hl rfl (Nat.lt_succ_self _)
