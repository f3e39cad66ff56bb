/-! lands of the class; worths -/
theorem gE_n {cs : List CL} {i : Nat} (h : cs[i]? = none) : cs.drop i = [] ∧ cs.drop (i + 1) = [] := by
  have := List.getElem?_eq_none_iff.mp h
  exact ⟨List.drop_eq_nil_of_le this, List.drop_eq_nil_of_le (by omega)⟩
theorem gE_s {cs : List CL} {i : Nat} {d : CL} (h : cs[i]? = some d) : cs.drop i = d :: cs.drop (i + 1) := by
  obtain ⟨h1, h2⟩ := List.getElem?_eq_some_iff.mp h
  rw [drop_c h1, h2]
set_option maxHeartbeats 4000000 in
set_option maxRecDepth 100000 in
theorem m_Land_last {g : xG} {nx : Nat} {sh : Nat → Nat × Nat} {P : Nat → Nat → Option Nat} {I : Nat → Nat → Int32} {la ar wd : Nat} {cs : List CL} (hL : xLnd nx sh P I la ar cs) (hw4 : wd < 4) : xMet g Y_Land_last 0 0 0 [.ref la, .int (nI wd)] (nx, sh, P, I) (fun r σ => r = some (.int (lstC wd (-5) cs)) ∧ σ = (nx, sh, P, I)) := by
  refine xMet.of [some (.ref la), some (.int (nI wd)), none, none, none, none, none] (by decide +kernel) (Nat.le_of_ble_eq_true rfl) rfl ?_
  obtain ⟨-, hla, hpa, har, -, hcl10, hall⟩ := hL
  refine x_bipush (v := (-5)) dX4_last_0 (by decide) ?_
  refine x_istore_n dX4_last_2 (Nat.le_of_ble_eq_true rfl) ?_
  try simp only [xst, xst2, xclr, xset, xwide]
  refine x_aload_n dX4_last_3 rfl ?_
  refine y_getr dX4_last_4 F_Land_11 hla rfl hpa ?_
  refine x_astore_n dX4_last_7 (Nat.le_of_ble_eq_true rfl) ?_
  try simp only [xst, xst2, xclr, xset, xwide]
  refine x_aload_n dX4_last_8 rfl ?_
  refine y_alen dX4_last_9 har (by decide) ?_
  refine x_istore dX4_last_10 (Nat.le_of_ble_eq_true rfl) ?_
  try simp only [xst, xst2, xclr, xset, xwide]
  refine x_iconst (v := 0) dX4_last_12 (by decide) ?_
  refine x_istore dX4_last_13 (Nat.le_of_ble_eq_true rfl) ?_
  try simp only [xst, xst2, xclr, xset, xwide]
  have K15 : ∀ (fuel : Nat) (i : Nat) (v : Int32) (v6 : Option Value) (hi : i ≤ 10) (hl : lstC wd v (cs.drop i) = lstC wd (-5) cs), 10 - i < fuel → xX g Y_Land_last 0 0 0 (fun r σ => r = some (.int (lstC wd (-5) cs)) ∧ σ = (nx, sh, P, I)) 15 [some (.ref la), some (.int (nI wd)), some (.int v), some (.ref ar), some (.int (nI 10)), some (.int (nI i)), v6] [] (nx, sh, P, I) := by
    intro fuel
    induction fuel with
    | zero => intro i v v6 hi hl hm; exact absurd hm (Nat.not_lt_zero _)
    | succ fuel ih15 =>
      intro i v v6 hi hl hm
      refine x_iload dX4_last_15 rfl ?_
      refine x_iload dX4_last_17 rfl ?_
      refine x_icmp_ge (tgt := 54) dX4_last_19 rfl (fun c19 => ?_) (fun c19 => ?_)
      · have hie : i = 10 := cge_t (by decide) hi c19
        refine x_iload_n dX4_last_54 rfl ?_
        refine x_ireturn dX4_last_55 rfl nb_int ?_
        have h0 : cs.drop i = [] := List.drop_eq_nil_of_le (by omega)
        rw [h0] at hl
        exact ⟨by rw [← hl]; rfl, rfl⟩
      · have him : i < 10 := cge_f (by decide) hi c19
        refine x_aload_n dX4_last_22 rfl ?_
        refine x_iload dX4_last_23 rfl ?_
        obtain ⟨hA1, hA2⟩ := hall i (by omega)
        rcases hgi : cs[i]? with _ | dd
        · obtain ⟨hd1, hd2⟩ := gE_n hgi
          rw [hd1] at hl
          have hpn := hA2 hgi
          refine y_aaloadN dX4_last_25 har (vi rfl him (by decide)) (by rw [nI_clamp (by omega)]; exact hpn) ?_
          refine x_astoreN dX4_last_26 (Nat.le_of_ble_eq_true rfl) ?_
          try simp only [xst, xst2, xclr, xset, xwide]
          refine x_aloadN dX4_last_28 rfl ?_
          refine x_ifnullN (tgt := 48) rfl dX4_last_30 ?_
          refine x_iinc (v := (nI (i + 1))) dX4_last_48 rfl (nI_1 _) (Nat.le_of_ble_eq_true rfl) ?_
          try simp only [xst, xst2, xclr, xset, xwide]
          refine x_goto (tgt := 15) dX4_last_51 rfl ?_
          first | exact ih15 (i + 1) v _ (by omega) (by rw [hd2]; exact hl) (by omega) | exact ih15 (i + 1) dd.2.1 _ (by omega) (by rw [← hl]; show _ = lstC wd (if dd.1 = wd then dd.2.1 else v) _; rw [if_pos ((nI_eqI (by have := hcl.2.2.2.2.2.2.2.2.1; omega) (by omega)).mp c39)]) (by omega) | exact ih15 (i + 1) v _ (by omega) (by rw [← hl]; show _ = lstC wd (if dd.1 = wd then dd.2.1 else v) _; rw [if_neg (fun z => c39 (by rw [z]))]) (by omega)
        · have hd1 := gE_s hgi
          rw [hd1] at hl
          obtain ⟨cl, co, hpc, hcl⟩ := hA1 dd hgi
          have hcl1 := hcl.2.1
          refine y_aaload dX4_last_25 har (vi rfl him (by decide)) (by rw [nI_clamp (by omega)]; exact hpc) ?_
          refine x_astore dX4_last_26 (Nat.le_of_ble_eq_true rfl) ?_
          try simp only [xst, xst2, xclr, xset, xwide]
          refine x_aload dX4_last_28 rfl ?_
          refine x_ifnull dX4_last_30 ?_
          refine x_aload dX4_last_33 rfl ?_
          refine y_geti dX4_last_35 F_Land_21 hcl1 rfl hcl.2.2.1 ?_
          refine x_iload_n dX4_last_38 rfl ?_
          refine x_icmp_ne (tgt := 48) dX4_last_39 rfl (fun c39 => ?_) (fun c39 => ?_)
          · refine x_iinc (v := (nI (i + 1))) dX4_last_48 rfl (nI_1 _) (Nat.le_of_ble_eq_true rfl) ?_
            try simp only [xst, xst2, xclr, xset, xwide]
            refine x_goto (tgt := 15) dX4_last_51 rfl ?_
            first | exact ih15 (i + 1) v _ (by omega) (by rw [hd2]; exact hl) (by omega) | exact ih15 (i + 1) dd.2.1 _ (by omega) (by rw [← hl]; show _ = lstC wd (if dd.1 = wd then dd.2.1 else v) _; rw [if_pos ((nI_eqI (by have := hcl.2.2.2.2.2.2.2.2.1; omega) (by omega)).mp c39)]) (by omega) | exact ih15 (i + 1) v _ (by omega) (by rw [← hl]; show _ = lstC wd (if dd.1 = wd then dd.2.1 else v) _; rw [if_neg (fun z => c39 (by rw [z]))]) (by omega)
          · refine x_aload dX4_last_42 rfl ?_
            refine y_geti dX4_last_44 F_Land_24 hcl1 rfl hcl.2.2.2.1 ?_
            refine x_istore_n dX4_last_47 (Nat.le_of_ble_eq_true rfl) ?_
            try simp only [xst, xst2, xclr, xset, xwide]
            refine x_iinc (v := (nI (i + 1))) dX4_last_48 rfl (nI_1 _) (Nat.le_of_ble_eq_true rfl) ?_
            try simp only [xst, xst2, xclr, xset, xwide]
            refine x_goto (tgt := 15) dX4_last_51 rfl ?_
            first | exact ih15 (i + 1) v _ (by omega) (by rw [hd2]; exact hl) (by omega) | exact ih15 (i + 1) dd.2.1 _ (by omega) (by rw [← hl]; show _ = lstC wd (if dd.1 = wd then dd.2.1 else v) _; rw [if_pos ((nI_eqI (by have := hcl.2.2.2.2.2.2.2.2.1; omega) (by omega)).mp c39)]) (by omega) | exact ih15 (i + 1) v _ (by omega) (by rw [← hl]; show _ = lstC wd (if dd.1 = wd then dd.2.1 else v) _; rw [if_neg (fun z => c39 (by rw [z]))]) (by omega)
  exact K15 _ 0 (-5) none (Nat.zero_le _) rfl (Nat.lt_succ_self _)

set_option maxHeartbeats 4000000 in
set_option maxRecDepth 100000 in
theorem m_Land_dearer {g : xG} {nx : Nat} {sh : Nat → Nat × Nat} {P : Nat → Nat → Option Nat} {I : Nat → Nat → Int32} {la ar fa : Nat} {cs : List CL} (hL : xLnd nx sh P I la ar cs) (hfa : sh fa = (12, 6)) : xMet g Y_Land_dearer 2 0 0 [.ref la, .ref fa] (nx, sh, P, I) (fun r σ => r = some (.int (dlC (I fa) 0 cs)) ∧ σ = (nx, sh, P, I)) := by
  refine xMet.of [some (.ref la), some (.ref fa), none, none, none, none, none] (by decide +kernel) (Nat.le_of_ble_eq_true rfl) rfl ?_
  obtain ⟨-, hla, hpa, har, -, hcl10, hall⟩ := hL
  refine x_iconst (v := 0) dX4_dearer_0 (by decide) ?_
  refine x_istore_n dX4_dearer_1 (Nat.le_of_ble_eq_true rfl) ?_
  try simp only [xst, xst2, xclr, xset, xwide]
  refine x_aload_n dX4_dearer_2 rfl ?_
  refine y_getr dX4_dearer_3 F_Land_11 hla rfl hpa ?_
  refine x_astore_n dX4_dearer_6 (Nat.le_of_ble_eq_true rfl) ?_
  try simp only [xst, xst2, xclr, xset, xwide]
  refine x_aload_n dX4_dearer_7 rfl ?_
  refine y_alen dX4_dearer_8 har (by decide) ?_
  refine x_istore dX4_dearer_9 (Nat.le_of_ble_eq_true rfl) ?_
  try simp only [xst, xst2, xclr, xset, xwide]
  refine x_iconst (v := 0) dX4_dearer_11 (by decide) ?_
  refine x_istore dX4_dearer_12 (Nat.le_of_ble_eq_true rfl) ?_
  try simp only [xst, xst2, xclr, xset, xwide]
  have K14 : ∀ (fuel : Nat) (i : Nat) (v : Int32) (v6 : Option Value) (hi : i ≤ 10) (hl : dlC (I fa) v (cs.drop i) = dlC (I fa) 0 cs), 10 - i < fuel → xX g Y_Land_dearer 2 0 0 (fun r σ => r = some (.int (dlC (I fa) 0 cs)) ∧ σ = (nx, sh, P, I)) 14 [some (.ref la), some (.ref fa), some (.int v), some (.ref ar), some (.int (nI 10)), some (.int (nI i)), v6] [] (nx, sh, P, I) := by
    intro fuel
    induction fuel with
    | zero => intro i v v6 hi hl hm; exact absurd hm (Nat.not_lt_zero _)
    | succ fuel ih14 =>
      intro i v v6 hi hl hm
      refine x_iload dX4_dearer_14 rfl ?_
      refine x_iload dX4_dearer_16 rfl ?_
      refine x_icmp_ge (tgt := 82) dX4_dearer_18 rfl (fun c18 => ?_) (fun c18 => ?_)
      · have hie : i = 10 := cge_t (by decide) hi c18
        refine x_iload_n dX4_dearer_82 rfl ?_
        refine x_ireturn dX4_dearer_83 rfl nb_int ?_
        have h0 : cs.drop i = [] := List.drop_eq_nil_of_le (by omega)
        rw [h0] at hl
        exact ⟨by rw [← hl]; rfl, rfl⟩
      · have him : i < 10 := cge_f (by decide) hi c18
        refine x_aload_n dX4_dearer_21 rfl ?_
        refine x_iload dX4_dearer_22 rfl ?_
        obtain ⟨hA1, hA2⟩ := hall i (by omega)
        rcases hgi : cs[i]? with _ | dd
        · obtain ⟨hd1, hd2⟩ := gE_n hgi
          rw [hd1] at hl
          have hpn := hA2 hgi
          refine y_aaloadN dX4_dearer_24 har (vi rfl him (by decide)) (by rw [nI_clamp (by omega)]; exact hpn) ?_
          refine x_astoreN dX4_dearer_25 (Nat.le_of_ble_eq_true rfl) ?_
          try simp only [xst, xst2, xclr, xset, xwide]
          refine x_aloadN dX4_dearer_27 rfl ?_
          refine x_ifnullN (tgt := 76) rfl dX4_dearer_29 ?_
          refine x_iinc (v := (nI (i + 1))) dX4_dearer_76 rfl (nI_1 _) (Nat.le_of_ble_eq_true rfl) ?_
          try simp only [xst, xst2, xclr, xset, xwide]
          refine x_goto (tgt := 14) dX4_dearer_79 rfl ?_
          first
          | exact ih14 (i + 1) v _ (by omega) (by rw [hd2]; exact hl) (by omega)
          | exact ih14 (i + 1) v _ (by omega) (by rw [← hl]; show _ = dlC (I fa) (dclC (I fa) v dd) _; unfold dclC; rw [if_pos ((nI_ltI (by omega) (by decide)).mp c38)]) (by omega)
          | exact ih14 (i + 1) v _ (by omega) (by rw [← hl]; show _ = dlC (I fa) (dclC (I fa) v dd) _; unfold dclC; rw [if_neg (by omega), if_neg (by rw [bi_f c47]; decide)]) (by omega)
          | exact ih14 (i + 1) _ _ (by omega) (by rw [← hl]; show _ = dlC (I fa) (dclC (I fa) v dd) _; unfold dclC; rw [if_neg (by omega), if_pos (bi_t c47), if_pos ((nI_eqI (by omega) (by decide)).mp c57)]) (by omega)
          | exact ih14 (i + 1) _ _ (by omega) (by rw [← hl]; show _ = dlC (I fa) (dclC (I fa) v dd) _; unfold dclC; rw [if_neg (by omega), if_pos (bi_t c47), if_neg (fun z => c57 (by rw [z]; rfl))]) (by omega)
        · have hd1 := gE_s hgi
          rw [hd1] at hl
          obtain ⟨cl, co, hpc, hcl⟩ := hA1 dd hgi
          have hcl1 := hcl.2.1
          refine y_aaload dX4_dearer_24 har (vi rfl him (by decide)) (by rw [nI_clamp (by omega)]; exact hpc) ?_
          refine x_astore dX4_dearer_25 (Nat.le_of_ble_eq_true rfl) ?_
          try simp only [xst, xst2, xclr, xset, xwide]
          refine x_aload dX4_dearer_27 rfl ?_
          refine x_ifnull dX4_dearer_29 ?_
          refine x_aload dX4_dearer_32 rfl ?_
          have hd4 := hcl.2.2.2.2.2.2.2.2.1
          refine y_geti dX4_dearer_34 F_Land_21 hcl1 rfl hcl.2.2.1 ?_
          refine x_iconst (v := 2) dX4_dearer_37 (by decide) ?_
          refine x_icmp_lt (tgt := 76) dX4_dearer_38 rfl (fun c38 => ?_) (fun c38 => ?_)
          · refine x_iinc (v := (nI (i + 1))) dX4_dearer_76 rfl (nI_1 _) (Nat.le_of_ble_eq_true rfl) ?_
            try simp only [xst, xst2, xclr, xset, xwide]
            refine x_goto (tgt := 14) dX4_dearer_79 rfl ?_
            first
            | exact ih14 (i + 1) v _ (by omega) (by rw [hd2]; exact hl) (by omega)
            | exact ih14 (i + 1) v _ (by omega) (by rw [← hl]; show _ = dlC (I fa) (dclC (I fa) v dd) _; unfold dclC; rw [if_pos ((nI_ltI (by omega) (by decide)).mp c38)]) (by omega)
            | exact ih14 (i + 1) v _ (by omega) (by rw [← hl]; show _ = dlC (I fa) (dclC (I fa) v dd) _; unfold dclC; rw [if_neg (by omega), if_neg (by rw [bi_f c47]; decide)]) (by omega)
            | exact ih14 (i + 1) _ _ (by omega) (by rw [← hl]; show _ = dlC (I fa) (dclC (I fa) v dd) _; unfold dclC; rw [if_neg (by omega), if_pos (bi_t c47), if_pos ((nI_eqI (by omega) (by decide)).mp c57)]) (by omega)
            | exact ih14 (i + 1) _ _ (by omega) (by rw [← hl]; show _ = dlC (I fa) (dclC (I fa) v dd) _; unfold dclC; rw [if_neg (by omega), if_pos (bi_t c47), if_neg (fun z => c57 (by rw [z]; rfl))]) (by omega)
          · have hd2 : 2 ≤ dd.1 := Nat.le_of_not_lt (fun z => c38 ((nI_ltI (by omega) (by decide)).mpr z))
            refine x_aload dX4_dearer_41 rfl ?_
            refine x_aload_n dX4_dearer_43 rfl ?_
            refine x_callV (k2 := 0) (n2 := 0) dX4_dearer_44 LV_Land_27 (m_Clause_holds (tk := dd.2.2) rfl hfa hcl hd2) rfl rfl hcl1 rfl (Nat.le_of_ble_eq_true rfl) (Nat.le_of_ble_eq_true rfl) (Nat.le_of_ble_eq_true rfl) (Nat.le_of_ble_eq_true rfl) ?_
            rintro _ _ ⟨rfl, rfl⟩
            refine x_if_eq (tgt := 76) dX4_dearer_47 rfl (fun c47 => ?_) (fun c47 => ?_)
            · refine x_iinc (v := (nI (i + 1))) dX4_dearer_76 rfl (nI_1 _) (Nat.le_of_ble_eq_true rfl) ?_
              try simp only [xst, xst2, xclr, xset, xwide]
              refine x_goto (tgt := 14) dX4_dearer_79 rfl ?_
              first
              | exact ih14 (i + 1) v _ (by omega) (by rw [hd2]; exact hl) (by omega)
              | exact ih14 (i + 1) v _ (by omega) (by rw [← hl]; show _ = dlC (I fa) (dclC (I fa) v dd) _; unfold dclC; rw [if_pos ((nI_ltI (by omega) (by decide)).mp c38)]) (by omega)
              | exact ih14 (i + 1) v _ (by omega) (by rw [← hl]; show _ = dlC (I fa) (dclC (I fa) v dd) _; unfold dclC; rw [if_neg (by omega), if_neg (by rw [bi_f c47]; decide)]) (by omega)
              | exact ih14 (i + 1) _ _ (by omega) (by rw [← hl]; show _ = dlC (I fa) (dclC (I fa) v dd) _; unfold dclC; rw [if_neg (by omega), if_pos (bi_t c47), if_pos ((nI_eqI (by omega) (by decide)).mp c57)]) (by omega)
              | exact ih14 (i + 1) _ _ (by omega) (by rw [← hl]; show _ = dlC (I fa) (dclC (I fa) v dd) _; unfold dclC; rw [if_neg (by omega), if_pos (bi_t c47), if_neg (fun z => c57 (by rw [z]; rfl))]) (by omega)
            · refine x_iload_n dX4_dearer_50 rfl ?_
              refine x_aload dX4_dearer_51 rfl ?_
              refine y_geti dX4_dearer_53 F_Land_21 hcl1 rfl hcl.2.2.1 ?_
              refine x_iconst (v := 2) dX4_dearer_56 (by decide) ?_
              refine x_icmp_ne (tgt := 68) dX4_dearer_57 rfl (fun c57 => ?_) (fun c57 => ?_)
              · refine x_aload dX4_dearer_68 rfl ?_
                refine y_geti dX4_dearer_70 F_Land_24 hcl1 rfl hcl.2.2.2.1 ?_
                refine x_ineg dX4_dearer_73 ?_
                refine x_iadd dX4_dearer_74 ?_
                refine x_istore_n dX4_dearer_75 (Nat.le_of_ble_eq_true rfl) ?_
                try simp only [xst, xst2, xclr, xset, xwide]
                refine x_iinc (v := (nI (i + 1))) dX4_dearer_76 rfl (nI_1 _) (Nat.le_of_ble_eq_true rfl) ?_
                try simp only [xst, xst2, xclr, xset, xwide]
                refine x_goto (tgt := 14) dX4_dearer_79 rfl ?_
                first
                | exact ih14 (i + 1) v _ (by omega) (by rw [hd2]; exact hl) (by omega)
                | exact ih14 (i + 1) v _ (by omega) (by rw [← hl]; show _ = dlC (I fa) (dclC (I fa) v dd) _; unfold dclC; rw [if_pos ((nI_ltI (by omega) (by decide)).mp c38)]) (by omega)
                | exact ih14 (i + 1) v _ (by omega) (by rw [← hl]; show _ = dlC (I fa) (dclC (I fa) v dd) _; unfold dclC; rw [if_neg (by omega), if_neg (by rw [bi_f c47]; decide)]) (by omega)
                | exact ih14 (i + 1) _ _ (by omega) (by rw [← hl]; show _ = dlC (I fa) (dclC (I fa) v dd) _; unfold dclC; rw [if_neg (by omega), if_pos (bi_t c47), if_pos ((nI_eqI (by omega) (by decide)).mp c57)]) (by omega)
                | exact ih14 (i + 1) _ _ (by omega) (by rw [← hl]; show _ = dlC (I fa) (dclC (I fa) v dd) _; unfold dclC; rw [if_neg (by omega), if_pos (bi_t c47), if_neg (fun z => c57 (by rw [z]; rfl))]) (by omega)
              · refine x_aload dX4_dearer_60 rfl ?_
                refine y_geti dX4_dearer_62 F_Land_24 hcl1 rfl hcl.2.2.2.1 ?_
                refine x_goto (tgt := 74) dX4_dearer_65 rfl ?_
                refine x_iadd dX4_dearer_74 ?_
                refine x_istore_n dX4_dearer_75 (Nat.le_of_ble_eq_true rfl) ?_
                try simp only [xst, xst2, xclr, xset, xwide]
                refine x_iinc (v := (nI (i + 1))) dX4_dearer_76 rfl (nI_1 _) (Nat.le_of_ble_eq_true rfl) ?_
                try simp only [xst, xst2, xclr, xset, xwide]
                refine x_goto (tgt := 14) dX4_dearer_79 rfl ?_
                first
                | exact ih14 (i + 1) v _ (by omega) (by rw [hd2]; exact hl) (by omega)
                | exact ih14 (i + 1) v _ (by omega) (by rw [← hl]; show _ = dlC (I fa) (dclC (I fa) v dd) _; unfold dclC; rw [if_pos ((nI_ltI (by omega) (by decide)).mp c38)]) (by omega)
                | exact ih14 (i + 1) v _ (by omega) (by rw [← hl]; show _ = dlC (I fa) (dclC (I fa) v dd) _; unfold dclC; rw [if_neg (by omega), if_neg (by rw [bi_f c47]; decide)]) (by omega)
                | exact ih14 (i + 1) _ _ (by omega) (by rw [← hl]; show _ = dlC (I fa) (dclC (I fa) v dd) _; unfold dclC; rw [if_neg (by omega), if_pos (bi_t c47), if_pos ((nI_eqI (by omega) (by decide)).mp c57)]) (by omega)
                | exact ih14 (i + 1) _ _ (by omega) (by rw [← hl]; show _ = dlC (I fa) (dclC (I fa) v dd) _; unfold dclC; rw [if_neg (by omega), if_pos (bi_t c47), if_neg (fun z => c57 (by rw [z]; rfl))]) (by omega)
  exact K14 _ 0 0 none (Nat.zero_le _) rfl (Nat.lt_succ_self _)

set_option maxHeartbeats 4000000 in
set_option maxRecDepth 100000 in
theorem m_World_less {g : xG} {nx : Nat} {sh : Nat → Nat × Nat} {P : Nat → Nat → Option Nat} {I : Nat → Nat → Int32} {x z : Int32} : xMet g Y_World_less 1 0 0 [.int x, .int z] (nx, sh, P, I) (fun r σ => r = some (.int (on1 (x - z))) ∧ σ = (nx, sh, P, I)) := by
  refine xMet.of [some (.int x), some (.int z)] (by decide +kernel) (Nat.le_of_ble_eq_true rfl) rfl ?_
  refine x_iconst (v := 1) dX9_less_0 (by decide) ?_
  refine x_iload_n dX9_less_1 rfl ?_
  refine x_iload_n dX9_less_2 rfl ?_
  refine x_isub dX9_less_3 ?_
  refine x_callS (k2 := 0) (n2 := 0) dX9_less_4 LS_World_69 m_max rfl rfl (Nat.le_of_ble_eq_true rfl) (Nat.le_of_ble_eq_true rfl) (Nat.le_of_ble_eq_true rfl) (Nat.le_of_ble_eq_true rfl) ?_
  rintro _ _ ⟨rfl, rfl⟩
  refine x_ireturn dX9_less_7 rfl nb_int ?_
  exact ⟨by unfold on1; grind, rfl⟩

set_option maxHeartbeats 4000000 in
set_option maxRecDepth 100000 in
theorem m_World_top {g : xG} {nx : Nat} {sh : Nat → Nat × Nat} {P : Nat → Nat → Option Nat} {I : Nat → Nat → Int32} (hx : xFx sh P) {s : Nat → Int32} (hL : xLd nx sh P I 65 s) : xMet g Y_World_top 1 0 0 [.ref 65] (nx, sh, P, I) (fun r σ => r = some (.int (tpN s)) ∧ σ = (nx, sh, P, I)) := by
  refine xMet.of [some (.ref 65), none] (by decide +kernel) (Nat.le_of_ble_eq_true rfl) rfl ?_
  refine x_aload_n dX9_top_0 rfl ?_
  rcases hL with ⟨h8, hp8⟩ | ⟨h8, la, ar, cs, cv, hp8, hLn, hcs, htop, hcht, hLK⟩
  · skip
    refine y_getrN dX9_top_1 F_World_42 (fxo_65 hx) rfl hp8 ?_
    refine x_ifnonnullN dX9_top_4 ?_
    refine x_bipush (v := (-5)) dX9_top_7 (by decide) ?_
    refine x_goto (tgt := 20) dX9_top_9 rfl ?_
    refine x_istore_n dX9_top_20 (Nat.le_of_ble_eq_true rfl) ?_
    try simp only [xst, xst2, xclr, xset, xwide]
    refine x_iload_n dX9_top_21 rfl ?_
    refine x_bipush (v := (-5)) dX9_top_22 (by decide) ?_
    refine x_icmp_ne (tgt := 32) dX9_top_24 rfl (fun c24 => ?_) (fun c24 => ?_)
    · skip
      refine x_iconst (v := 1) dX9_top_32 (by decide) ?_
      refine x_bipush (v := 9) dX9_top_33 (by decide) ?_
      refine x_iload_n dX9_top_35 rfl ?_
      refine x_callS (k2 := 0) (n2 := 0) dX9_top_36 LS_World_63 m_min rfl rfl (Nat.le_of_ble_eq_true rfl) (Nat.le_of_ble_eq_true rfl) (Nat.le_of_ble_eq_true rfl) (Nat.le_of_ble_eq_true rfl) ?_
      rintro _ _ ⟨rfl, rfl⟩
      refine x_callS (k2 := 0) (n2 := 0) dX9_top_39 LS_World_69 m_max rfl rfl (Nat.le_of_ble_eq_true rfl) (Nat.le_of_ble_eq_true rfl) (Nat.le_of_ble_eq_true rfl) (Nat.le_of_ble_eq_true rfl) ?_
      rintro _ _ ⟨rfl, rfl⟩
      refine x_ireturn dX9_top_42 rfl nb_int ?_
      first
      | exact ⟨by unfold tpN tlO; rw [if_pos h8]; decide, rfl⟩
      | exact absurd (by decide) c24
      | (refine ⟨?_, rfl⟩
         unfold tpN
         rw [htop]
         rcases h5 with ⟨z1, z2⟩ | ⟨z1, z2⟩
         · first | exact absurd z1 c24 | (rw [z2]; decide)
         · first | exact absurd c24 z1 | (rw [z2]; grind))
    · refine x_bipush (v := 9) dX9_top_27 (by decide) ?_
      refine x_goto (tgt := 42) dX9_top_29 rfl ?_
      refine x_ireturn dX9_top_42 rfl nb_int ?_
      first
      | exact ⟨by unfold tpN tlO; rw [if_pos h8]; decide, rfl⟩
      | exact absurd (by decide) c24
      | (refine ⟨?_, rfl⟩
         unfold tpN
         rw [htop]
         rcases h5 with ⟨z1, z2⟩ | ⟨z1, z2⟩
         · first | exact absurd z1 c24 | (rw [z2]; decide)
         · first | exact absurd c24 z1 | (rw [z2]; grind))
  · have hla := hLn.2.1
    refine y_getr dX9_top_1 F_World_42 (fxo_65 hx) rfl hp8 ?_
    refine x_ifnonnull (tgt := 12) rfl dX9_top_4 ?_
    refine x_aload_n dX9_top_12 rfl ?_
    refine y_getr dX9_top_13 F_World_42 (fxo_65 hx) rfl hp8 ?_
    refine x_iconst (v := 0) dX9_top_16 (by decide) ?_
    refine x_callV (k2 := 0) (n2 := 0) dX9_top_17 LV_World_57 (m_Land_last (wd := 0) hLn (by decide)) rfl rfl hla rfl (Nat.le_of_ble_eq_true rfl) (Nat.le_of_ble_eq_true rfl) (Nat.le_of_ble_eq_true rfl) (Nat.le_of_ble_eq_true rfl) ?_
    rintro _ _ ⟨rfl, rfl⟩
    rw [lstC_e hcs]
    have h5 := lst_5 (w := 0) _ _ 9 hcs
    refine x_istore_n dX9_top_20 (Nat.le_of_ble_eq_true rfl) ?_
    try simp only [xst, xst2, xclr, xset, xwide]
    refine x_iload_n dX9_top_21 rfl ?_
    refine x_bipush (v := (-5)) dX9_top_22 (by decide) ?_
    refine x_icmp_ne (tgt := 32) dX9_top_24 rfl (fun c24 => ?_) (fun c24 => ?_)
    · skip
      refine x_iconst (v := 1) dX9_top_32 (by decide) ?_
      refine x_bipush (v := 9) dX9_top_33 (by decide) ?_
      refine x_iload_n dX9_top_35 rfl ?_
      refine x_callS (k2 := 0) (n2 := 0) dX9_top_36 LS_World_63 m_min rfl rfl (Nat.le_of_ble_eq_true rfl) (Nat.le_of_ble_eq_true rfl) (Nat.le_of_ble_eq_true rfl) (Nat.le_of_ble_eq_true rfl) ?_
      rintro _ _ ⟨rfl, rfl⟩
      refine x_callS (k2 := 0) (n2 := 0) dX9_top_39 LS_World_69 m_max rfl rfl (Nat.le_of_ble_eq_true rfl) (Nat.le_of_ble_eq_true rfl) (Nat.le_of_ble_eq_true rfl) (Nat.le_of_ble_eq_true rfl) ?_
      rintro _ _ ⟨rfl, rfl⟩
      refine x_ireturn dX9_top_42 rfl nb_int ?_
      first
      | exact ⟨by unfold tpN tlO; rw [if_pos h8]; decide, rfl⟩
      | exact absurd (by decide) c24
      | (refine ⟨?_, rfl⟩
         unfold tpN
         rw [htop]
         rcases h5 with ⟨z1, z2⟩ | ⟨z1, z2⟩
         · first | exact absurd z1 c24 | (rw [z2]; decide)
         · first | exact absurd c24 z1 | (rw [z2]; grind))
    · refine x_bipush (v := 9) dX9_top_27 (by decide) ?_
      refine x_goto (tgt := 42) dX9_top_29 rfl ?_
      refine x_ireturn dX9_top_42 rfl nb_int ?_
      first
      | exact ⟨by unfold tpN tlO; rw [if_pos h8]; decide, rfl⟩
      | exact absurd (by decide) c24
      | (refine ⟨?_, rfl⟩
         unfold tpN
         rw [htop]
         rcases h5 with ⟨z1, z2⟩ | ⟨z1, z2⟩
         · first | exact absurd z1 c24 | (rw [z2]; decide)
         · first | exact absurd c24 z1 | (rw [z2]; grind))

set_option maxHeartbeats 4000000 in
set_option maxRecDepth 100000 in
theorem m_World_cheating {g : xG} {nx : Nat} {sh : Nat → Nat × Nat} {P : Nat → Nat → Option Nat} {I : Nat → Nat → Int32} (hx : xFx sh P) {s : Nat → Int32} (hL : xLd nx sh P I 65 s) : xMet g Y_World_cheating 1 0 0 [.ref 65] (nx, sh, P, I) (fun r σ => r = some (.int (tlO s 222 0)) ∧ σ = (nx, sh, P, I)) := by
  refine xMet.of [some (.ref 65), none] (by decide +kernel) (Nat.le_of_ble_eq_true rfl) rfl ?_
  refine x_aload_n dX9_cheating_0 rfl ?_
  rcases hL with ⟨h8, hp8⟩ | ⟨h8, la, ar, cs, cv, hp8, hLn, hcs, htop, hcht, hLK⟩
  · skip
    refine y_getrN dX9_cheating_1 F_World_42 (fxo_65 hx) rfl hp8 ?_
    refine x_ifnonnullN dX9_cheating_4 ?_
    refine x_bipush (v := (-5)) dX9_cheating_7 (by decide) ?_
    refine x_goto (tgt := 20) dX9_cheating_9 rfl ?_
    refine x_istore_n dX9_cheating_20 (Nat.le_of_ble_eq_true rfl) ?_
    try simp only [xst, xst2, xclr, xset, xwide]
    refine x_iload_n dX9_cheating_21 rfl ?_
    refine x_bipush (v := (-5)) dX9_cheating_22 (by decide) ?_
    refine x_icmp_ne (tgt := 31) dX9_cheating_24 rfl (fun c24 => ?_) (fun c24 => ?_)
    · skip
      refine x_iload_n dX9_cheating_31 rfl ?_
      refine x_ireturn dX9_cheating_32 rfl nb_int ?_
      first
      | exact absurd rfl c24
      | exact ⟨by unfold tlO; rw [if_pos h8], rfl⟩
      | exact absurd (by decide) c24
      | (refine ⟨?_, rfl⟩
         rw [hcht]
         rcases h5 with ⟨z1, z2⟩ | ⟨z1, z2⟩
         · first | exact absurd z1 c24 | rw [z2]
         · first | exact absurd c24 z1 | rw [z2])
    · refine x_iconst (v := 0) dX9_cheating_27 (by decide) ?_
      refine x_goto (tgt := 32) dX9_cheating_28 rfl ?_
      refine x_ireturn dX9_cheating_32 rfl nb_int ?_
      first
      | exact absurd rfl c24
      | exact ⟨by unfold tlO; rw [if_pos h8], rfl⟩
      | exact absurd (by decide) c24
      | (refine ⟨?_, rfl⟩
         rw [hcht]
         rcases h5 with ⟨z1, z2⟩ | ⟨z1, z2⟩
         · first | exact absurd z1 c24 | rw [z2]
         · first | exact absurd c24 z1 | rw [z2])
  · have hla := hLn.2.1
    refine y_getr dX9_cheating_1 F_World_42 (fxo_65 hx) rfl hp8 ?_
    refine x_ifnonnull (tgt := 12) rfl dX9_cheating_4 ?_
    refine x_aload_n dX9_cheating_12 rfl ?_
    refine y_getr dX9_cheating_13 F_World_42 (fxo_65 hx) rfl hp8 ?_
    refine x_iconst (v := 1) dX9_cheating_16 (by decide) ?_
    refine x_callV (k2 := 0) (n2 := 0) dX9_cheating_17 LV_World_57 (m_Land_last (wd := 1) hLn (by decide)) rfl rfl hla rfl (Nat.le_of_ble_eq_true rfl) (Nat.le_of_ble_eq_true rfl) (Nat.le_of_ble_eq_true rfl) (Nat.le_of_ble_eq_true rfl) ?_
    rintro _ _ ⟨rfl, rfl⟩
    rw [lstC_e hcs]
    have h5 := lst_5 (w := 1) _ _ 0 hcs
    refine x_istore_n dX9_cheating_20 (Nat.le_of_ble_eq_true rfl) ?_
    try simp only [xst, xst2, xclr, xset, xwide]
    refine x_iload_n dX9_cheating_21 rfl ?_
    refine x_bipush (v := (-5)) dX9_cheating_22 (by decide) ?_
    refine x_icmp_ne (tgt := 31) dX9_cheating_24 rfl (fun c24 => ?_) (fun c24 => ?_)
    · skip
      refine x_iload_n dX9_cheating_31 rfl ?_
      refine x_ireturn dX9_cheating_32 rfl nb_int ?_
      first
      | exact absurd rfl c24
      | exact ⟨by unfold tlO; rw [if_pos h8], rfl⟩
      | exact absurd (by decide) c24
      | (refine ⟨?_, rfl⟩
         rw [hcht]
         rcases h5 with ⟨z1, z2⟩ | ⟨z1, z2⟩
         · first | exact absurd z1 c24 | rw [z2]
         · first | exact absurd c24 z1 | rw [z2])
    · refine x_iconst (v := 0) dX9_cheating_27 (by decide) ?_
      refine x_goto (tgt := 32) dX9_cheating_28 rfl ?_
      refine x_ireturn dX9_cheating_32 rfl nb_int ?_
      first
      | exact absurd rfl c24
      | exact ⟨by unfold tlO; rw [if_pos h8], rfl⟩
      | exact absurd (by decide) c24
      | (refine ⟨?_, rfl⟩
         rw [hcht]
         rcases h5 with ⟨z1, z2⟩ | ⟨z1, z2⟩
         · first | exact absurd z1 c24 | rw [z2]
         · first | exact absurd c24 z1 | rw [z2])

set_option maxHeartbeats 4000000 in
set_option maxRecDepth 100000 in
theorem m_World_lookAt {g : xG} {nx : Nat} {sh : Nat → Nat × Nat} {P : Nat → Nat → Option Nat} {I : Nat → Nat → Int32} (hx : xFx sh P) {s : Nat → Int32} (hW : xWN nx sh P I s) (hR : RI s) {c : Nat} {base purse day : Int32} (hc : c < cN s 0) : xMet g Y_World_lookAt 2 0 0 [.ref 65, .int (nI c), .int base, .int purse, .int day] (nx, sh, P, I) (fun r σ => ∃ F : Nat → Int32, r = none ∧ σ = (nx, sh, P, va_up I 80 F) ∧ ∀ j, j < 6 → F j = xFa s c base purse day j) := by
  refine xMet.of [some (.ref 65), some (.int (nI c)), some (.int base), some (.int purse), some (.int day)] (by decide +kernel) (Nat.le_of_ble_eq_true rfl) rfl ?_
  obtain ⟨⟨tTape, tCoins, tWares, tBuys, tSlates, tPlans, tBooked⟩, ⟨cTape, cCoins, cWares, cBuys, cSlates, cPlans, cBooked⟩, hW7, hW9, hL⟩ := id hW
  have hc4 := hR.c0.2
  refine x_aload_n dX9_lookAt_0 rfl ?_
  refine y_getr dX9_lookAt_1 F_World_49 (fxo_65 hx) rfl (fxp_65_10 hx) ?_
  refine x_iconst (v := 0) dX9_lookAt_4 (by decide) ?_
  refine x_iload_n dX9_lookAt_5 rfl ?_
  refine y_iastore dX9_lookAt_6 (fxk_80 hx) (vi (j := 0) rfl (by decide) (by decide)) (ci (j := 0) rfl (by decide)) ?_
  rw [xup_va]
  refine x_aload_n dX9_lookAt_7 rfl ?_
  refine y_getr dX9_lookAt_8 F_World_49 (fxo_65 hx) rfl (fxp_65_10 hx) ?_
  refine x_iconst (v := 1) dX9_lookAt_11 (by decide) ?_
  refine x_aload_n dX9_lookAt_12 rfl ?_
  refine y_getr dX9_lookAt_13 F_World_20 (fxo_65 hx) rfl (fxp_65_1 hx) ?_
  refine x_iload_n dX9_lookAt_16 rfl ?_
  refine x_iconst (v := 0) dX9_lookAt_17 (by decide) ?_
  refine x_callV (k2 := 0) (n2 := 0) dX9_lookAt_18 LV_World_72 (m_Table_get (tCoins.other (va_up_no (by decide))) (x := nI c) (z := nI 0)) rfl rfl (fxo_68 hx) rfl (Nat.le_of_ble_eq_true rfl) (Nat.le_of_ble_eq_true rfl) (Nat.le_of_ble_eq_true rfl) (Nat.le_of_ble_eq_true rfl) ?_
  rintro _ _ ⟨rfl, rfl⟩
  rw [xTg_in (r := c) (k := 0) (by omega) (by decide) (by omega) (by decide), va_up_no (by decide), (cCoins c hc).1]
  refine y_iastore dX9_lookAt_21 (fxk_80 hx) (vi (j := 1) rfl (by decide) (by decide)) (ci (j := 1) rfl (by decide)) ?_
  rw [xup_row]
  refine x_aload_n dX9_lookAt_22 rfl ?_
  refine y_getr dX9_lookAt_23 F_World_49 (fxo_65 hx) rfl (fxp_65_10 hx) ?_
  refine x_iconst (v := 2) dX9_lookAt_26 (by decide) ?_
  refine x_aload_n dX9_lookAt_27 rfl ?_
  refine y_getr dX9_lookAt_28 F_World_20 (fxo_65 hx) rfl (fxp_65_1 hx) ?_
  refine x_iload_n dX9_lookAt_31 rfl ?_
  refine x_iconst (v := 1) dX9_lookAt_32 (by decide) ?_
  refine x_callV (k2 := 0) (n2 := 0) dX9_lookAt_33 LV_World_72 (m_Table_get (tCoins.other (va_up_no (by decide))) (x := nI c) (z := nI 1)) rfl rfl (fxo_68 hx) rfl (Nat.le_of_ble_eq_true rfl) (Nat.le_of_ble_eq_true rfl) (Nat.le_of_ble_eq_true rfl) (Nat.le_of_ble_eq_true rfl) ?_
  rintro _ _ ⟨rfl, rfl⟩
  rw [xTg_in (r := c) (k := 1) (by omega) (by decide) (by omega) (by decide), va_up_no (by decide), (cCoins c hc).2.1]
  refine y_iastore dX9_lookAt_36 (fxk_80 hx) (vi (j := 2) rfl (by decide) (by decide)) (ci (j := 2) rfl (by decide)) ?_
  rw [xup_row]
  refine x_aload_n dX9_lookAt_37 rfl ?_
  refine y_getr dX9_lookAt_38 F_World_49 (fxo_65 hx) rfl (fxp_65_10 hx) ?_
  refine x_iconst (v := 3) dX9_lookAt_41 (by decide) ?_
  refine x_iload_n dX9_lookAt_42 rfl ?_
  refine y_iastore dX9_lookAt_43 (fxk_80 hx) (vi (j := 3) rfl (by decide) (by decide)) (ci (j := 3) rfl (by decide)) ?_
  rw [xup_row]
  refine x_aload_n dX9_lookAt_44 rfl ?_
  refine y_getr dX9_lookAt_45 F_World_49 (fxo_65 hx) rfl (fxp_65_10 hx) ?_
  refine x_iconst (v := 4) dX9_lookAt_48 (by decide) ?_
  refine x_iload dX9_lookAt_49 rfl ?_
  refine x_bipush (v := 10) dX9_lookAt_51 (by decide) ?_
  refine x_irem dX9_lookAt_53 (by decide) ?_
  refine y_iastore dX9_lookAt_54 (fxk_80 hx) (vi (j := 4) rfl (by decide) (by decide)) (ci (j := 4) rfl (by decide)) ?_
  rw [xup_row]
  refine x_aload_n dX9_lookAt_55 rfl ?_
  refine y_getr dX9_lookAt_56 F_World_49 (fxo_65 hx) rfl (fxp_65_10 hx) ?_
  refine x_iconst (v := 5) dX9_lookAt_59 (by decide) ?_
  refine x_iload_n dX9_lookAt_60 rfl ?_
  refine y_iastore dX9_lookAt_61 (fxk_80 hx) (vi (j := 5) rfl (by decide) (by decide)) (ci (j := 5) rfl (by decide)) ?_
  rw [xup_row]
  refine x_return dX9_lookAt_62 rfl ?_
  refine ⟨_, rfl, rfl, fun j hj => ?_⟩
  match j, hj with
  | 0, _ => rfl
  | 1, _ => rfl
  | 2, _ => rfl
  | 3, _ => rfl
  | 4, _ => rfl
  | 5, _ => rfl
