/-! the class: acts, the bodies -/
theorem xT1 {I : Nat → Nat → Int32} {r : Nat} {l : List Int32} (h : I 125 1 = nI r) : xTr 126 125 1 I r l 125 1 = nI (r + l.length) := xTr_r (by decide) h
theorem xT2 {I : Nat → Nat → Int32} {r : Nat} {l : List Int32} {v : Int32} (h : I 125 2 = v) : xTr 126 125 1 I r l 125 2 = v := (xTr_fo (by decide) (by decide)).trans h
theorem xT3 {I : Nat → Nat → Int32} {r : Nat} {l : List Int32} {v : Int32} (h : I 125 3 = v) : xTr 126 125 1 I r l 125 3 = v := (xTr_fo (by decide) (by decide)).trans h
theorem xT4 {I : Nat → Nat → Int32} {r : Nat} {l : List Int32} {v : Int32} (h : I 125 4 = v) : xTr 126 125 1 I r l 125 4 = v := (xTr_fo (by decide) (by decide)).trans h
set_option maxHeartbeats 4000000 in
set_option maxRecDepth 100000 in
theorem m_Acts_run {g : xG} {nx : Nat} {sh : Nat → Nat × Nat} {P : Nat → Nat → Option Nat} {I : Nat → Nat → Int32} (hx : xFx sh P) {fr a x body V : Int32} {r dp da d : Nat} {S : Nat → Nat → Int32} (hr : I 125 1 = nI r) (hr2 : r < 20) (hdp : dp ≤ 20) (hbd : bdS 7 fr a = body) (hd1 : da + 1 ≤ d) (hd2 : 2 ≤ d) (hA : xMet g Y_Acts_answer da 0 0 [.ref 125, .int body, .int x, .int (nI (dp + 1))] (nx, sh, P, xTr 126 125 1 I r [body]) (fun z σ => z = some (.int V) ∧ σ = (nx, sh, P, S))) : xMet g Y_Acts_run d 0 0 [.ref 125, .int fr, .int a, .int x, .int (nI dp)] (nx, sh, P, I) (fun z σ => z = some (.int V) ∧ σ = (nx, sh, P, S)) := by
  refine xMet.of [some (.ref 125), some (.int fr), some (.int a), some (.int x), some (.int (nI dp)), none] (by decide +kernel) (Nat.le_of_ble_eq_true rfl) rfl ?_
  refine x_iload dX0_run_0 rfl ?_
  refine x_bipush (v := 20) dX0_run_2 (by decide) ?_
  refine x_icmp_le (tgt := 9) dX0_run_4 rfl (fun c4 => ?_) (fun c4 => ?_)
  · refine x_iload_n dX0_run_9 rfl ?_
    refine x_iload_n dX0_run_10 rfl ?_
    refine x_callS (k2 := 0) (n2 := 0) dX0_run_11 LS_Acts_32 m_Acts_bodyOf rfl rfl (by omega) (Nat.le_of_ble_eq_true rfl) (Nat.le_of_ble_eq_true rfl) (Nat.le_of_ble_eq_true rfl) ?_
    rintro _ _ ⟨rfl, rfl⟩
    rw [hbd]
    refine x_istore dX0_run_14 (Nat.le_of_ble_eq_true rfl) ?_
    try simp only [xst, xst2, xclr, xset, xwide]
    refine x_aload_n dX0_run_16 rfl ?_
    refine y_geti dX0_run_17 F_Acts_15 (fxo_125 hx) rfl hr ?_
    refine x_if_lt (tgt := 46) dX0_run_20 rfl (fun c20 => ?_) (fun c20 => ?_)
    · exact absurd c20 (nI_pos (by omega))
    · refine x_aload_n dX0_run_23 rfl ?_
      refine y_geti dX0_run_24 F_Acts_15 (fxo_125 hx) rfl hr ?_
      refine x_aload_n dX0_run_27 rfl ?_
      refine y_getr dX0_run_28 F_Acts_9 (fxo_125 hx) rfl (fxp_125_0 hx) ?_
      refine y_alen dX0_run_31 (fxk_126 hx) (by decide) ?_
      refine x_icmp_ge (tgt := 46) dX0_run_32 rfl (fun c32 => ?_) (fun c32 => ?_)
      · exact absurd ((nI_leI (by decide) (by omega)).mp c32) (by omega)
      · refine x_aload_n dX0_run_35 rfl ?_
        refine y_getr dX0_run_36 F_Acts_9 (fxo_125 hx) rfl (fxp_125_0 hx) ?_
        refine x_aload_n dX0_run_39 rfl ?_
        refine y_geti dX0_run_40 F_Acts_15 (fxo_125 hx) rfl hr ?_
        refine x_iload dX0_run_43 rfl ?_
        refine y_iastore dX0_run_45 (fxk_126 hx) (vi (j := r) rfl (by omega) (by decide)) (ci (j := r) rfl (by omega)) ?_
        refine x_aload_n dX0_run_46 rfl ?_
        refine x_dup dX0_run_47 rfl ?_
        refine y_geti dX0_run_48 F_Acts_15 (fxo_125 hx) rfl (show _ = nI r from (xo (by decide)).trans hr) ?_
        refine x_iconst (v := 1) dX0_run_51 (by decide) ?_
        refine x_iadd dX0_run_52 ?_
        rw [nI_1]
        refine x_puti dX0_run_53 F_Acts_15 T_0_1 (fxo_125 hx) rfl rfl rfl ?_
        refine x_aload_n dX0_run_56 rfl ?_
        refine x_iload dX0_run_57 rfl ?_
        refine x_iload_n dX0_run_59 rfl ?_
        refine x_iload dX0_run_60 rfl ?_
        refine x_iconst (v := 1) dX0_run_62 (by decide) ?_
        refine x_iadd dX0_run_63 ?_
        rw [nI_1]
        refine x_callV (k2 := 0) (n2 := 0) dX0_run_64 LV_Acts_36 hA rfl rfl (fxo_125 hx) rfl (by omega) (Nat.le_of_ble_eq_true rfl) (Nat.le_of_ble_eq_true rfl) (Nat.le_of_ble_eq_true rfl) ?_
        rintro _ _ ⟨rfl, rfl⟩
        refine x_ireturn dX0_run_67 rfl nb_int ?_
        exact ⟨rfl, rfl⟩
  · exact absurd (nI_le (b := 20) hdp (by decide)) c4

set_option maxHeartbeats 4000000 in
set_option maxRecDepth 100000 in
theorem m_ans1 {g : xG} {nx : Nat} {sh : Nat → Nat × Nat} {P : Nat → Nat → Option Nat} {I : Nat → Nat → Int32} (hx : xFx sh P) {kd num v x : Int32} {r dp : Nat} (hr : I 125 1 = nI r) (hkd : I 125 3 = kd) (hnum : I 125 2 = num) (hv : I 125 4 = v) (hr2 : r + 0 ≤ 20) (hdp : dp + 0 ≤ 20) : xMet g Y_Acts_answer 0 0 0 [.ref 125, .int 1, .int x, .int (nI dp)] (nx, sh, P, I) (fun z σ => z = some (.int (x + num)) ∧ σ = (nx, sh, P, I)) := by
  refine xMet.of [some (.ref 125), some (.int 1), some (.int x), some (.int (nI dp))] (by decide +kernel) (Nat.le_of_ble_eq_true rfl) rfl ?_
  refine x_iload_n dX0_answer_0 rfl ?_
  skip
  · skip
    refine x_lookup (off := 83) (tgt := 84) dX0_answer_1 (by decide) (by decide) rfl ?_
    refine x_iload_n dX0_answer_84 rfl ?_
    refine x_aload_n dX0_answer_85 rfl ?_
    refine y_geti dX0_answer_86 F_Acts_19 (fxo_125 hx) rfl hnum ?_
    refine x_iadd dX0_answer_89 ?_
    refine x_ireturn dX0_answer_90 rfl nb_int ?_
    exact ⟨rfl, rfl⟩

theorem m_run1 {g : xG} {nx : Nat} {sh : Nat → Nat × Nat} {P : Nat → Nat → Option Nat} {I : Nat → Nat → Int32} (hx : xFx sh P) {kd num v x : Int32} {r dp : Nat} {f : Int32} (hr : I 125 1 = nI r) (hkd : I 125 3 = kd) (hnum : I 125 2 = num) (hv : I 125 4 = v) (hf : bdS 7 f 0 = 1) (hr2 : r + 1 ≤ 20) (hdp : dp + 1 ≤ 20) : xMet g Y_Acts_run 2 0 0 [.ref 125, .int f, .int 0, .int x, .int (nI dp)] (nx, sh, P, I) (fun z σ => z = some (.int (x + num)) ∧ σ = (nx, sh, P, xTr 126 125 1 I r ([1]))) := by
  refine m_Acts_run hx hr (by omega) (by omega) hf (da := 0) (by decide) (by decide) ?_
  exact m_ans1 hx (I := xTr 126 125 1 I r [1]) (r := r + 1) (dp := dp + 1) (hr := (xT1 hr)) (hkd := xT3 hkd) (hnum := xT2 hnum) (hv := xT4 hv) (hr2 := by omega) (hdp := by omega)

set_option maxHeartbeats 4000000 in
set_option maxRecDepth 100000 in
theorem m_ans11 {g : xG} {nx : Nat} {sh : Nat → Nat × Nat} {P : Nat → Nat → Option Nat} {I : Nat → Nat → Int32} (hx : xFx sh P) {kd num v x : Int32} {r dp : Nat} (hr : I 125 1 = nI r) (hkd : I 125 3 = kd) (hnum : I 125 2 = num) (hv : I 125 4 = v) (hr2 : r + 1 ≤ 20) (hdp : dp + 1 ≤ 20) : xMet g Y_Acts_answer 3 0 0 [.ref 125, .int 11, .int x, .int (nI dp)] (nx, sh, P, I) (fun z σ => z = some (.int (x * 3 + num)) ∧ σ = (nx, sh, P, xTr 126 125 1 I r ([1]))) := by
  refine xMet.of [some (.ref 125), some (.int 11), some (.int x), some (.int (nI dp))] (by decide +kernel) (Nat.le_of_ble_eq_true rfl) rfl ?_
  refine x_iload_n dX0_answer_0 rfl ?_
  skip
  · skip
    refine x_lookup (off := 121) (tgt := 122) dX0_answer_1 (by decide) (by decide) rfl ?_
    refine x_aload_n dX0_answer_122 rfl ?_
    refine x_iconst (v := 0) dX0_answer_123 (by decide) ?_
    refine x_iconst (v := 0) dX0_answer_124 (by decide) ?_
    refine x_iload_n dX0_answer_125 rfl ?_
    refine x_iconst (v := 3) dX0_answer_126 (by decide) ?_
    refine x_imul dX0_answer_127 ?_
    refine x_iload_n dX0_answer_128 rfl ?_
    refine x_callV (k2 := 0) (n2 := 0) dX0_answer_129 LV_Acts_28 (m_run1 (x := x * 3) (I := I) (r := r) (dp := dp) hx (hr := hr) (hkd := hkd) (hnum := hnum) (hv := hv) (hr2 := by omega) (hdp := by omega) (hf := by decide)) rfl rfl (fxo_125 hx) rfl (Nat.le_of_ble_eq_true rfl) (Nat.le_of_ble_eq_true rfl) (Nat.le_of_ble_eq_true rfl) (Nat.le_of_ble_eq_true rfl) ?_
    rintro _ _ ⟨rfl, rfl⟩
    refine x_ireturn dX0_answer_132 rfl nb_int ?_
    exact ⟨rfl, rfl⟩

set_option maxHeartbeats 4000000 in
set_option maxRecDepth 100000 in
theorem m_ans51 {g : xG} {nx : Nat} {sh : Nat → Nat × Nat} {P : Nat → Nat → Option Nat} {I : Nat → Nat → Int32} (hx : xFx sh P) {kd num v x : Int32} {r dp : Nat} (hr : I 125 1 = nI r) (hkd : I 125 3 = kd) (hnum : I 125 2 = num) (hv : I 125 4 = v) (hr2 : r + 1 ≤ 20) (hdp : dp + 1 ≤ 20) : xMet g Y_Acts_answer 3 0 0 [.ref 125, .int 51, .int x, .int (nI dp)] (nx, sh, P, I) (fun z σ => z = some (.int ((x + num) ^^^ num)) ∧ σ = (nx, sh, P, xTr 126 125 1 I r ([1]))) := by
  refine xMet.of [some (.ref 125), some (.int 51), some (.int x), some (.int (nI dp))] (by decide +kernel) (Nat.le_of_ble_eq_true rfl) rfl ?_
  refine x_iload_n dX0_answer_0 rfl ?_
  skip
  · skip
    refine x_lookup (off := 177) (tgt := 178) dX0_answer_1 (by decide) (by decide) rfl ?_
    refine x_aload_n dX0_answer_178 rfl ?_
    refine x_iconst (v := 2) dX0_answer_179 (by decide) ?_
    refine x_iconst (v := 0) dX0_answer_180 (by decide) ?_
    refine x_iload_n dX0_answer_181 rfl ?_
    refine x_iload_n dX0_answer_182 rfl ?_
    refine x_callV (k2 := 0) (n2 := 0) dX0_answer_183 LV_Acts_28 (m_run1 (I := I) (r := r) (dp := dp) hx (hr := hr) (hkd := hkd) (hnum := hnum) (hv := hv) (hr2 := by omega) (hdp := by omega) (hf := by decide)) rfl rfl (fxo_125 hx) rfl (Nat.le_of_ble_eq_true rfl) (Nat.le_of_ble_eq_true rfl) (Nat.le_of_ble_eq_true rfl) (Nat.le_of_ble_eq_true rfl) ?_
    rintro _ _ ⟨rfl, rfl⟩
    refine x_aload_n dX0_answer_186 rfl ?_
    refine y_geti dX0_answer_187 F_Acts_19 (fxo_125 hx) rfl (xT2 hnum) ?_
    refine x_ixor dX0_answer_190 ?_
    refine x_ireturn dX0_answer_191 rfl nb_int ?_
    exact ⟨rfl, rfl⟩

theorem m_runsh {g : xG} {nx : Nat} {sh : Nat → Nat × Nat} {P : Nat → Nat → Option Nat} {I : Nat → Nat → Int32} (hx : xFx sh P) {kd num v x : Int32} {r dp : Nat} (hr : I 125 1 = nI r) (hkd : I 125 3 = kd) (hnum : I 125 2 = num) (hv : I 125 4 = v) (hk6 : ∃ f, f < 7 ∧ kd = nI f) (hr2 : r + 2 ≤ 20) (hdp : dp + 2 ≤ 20) : xMet g Y_Acts_run 4 0 0 [.ref 125, .int kd, .int 0, .int x, .int (nI dp)] (nx, sh, P, I) (fun z σ => z = some (.int (shV kd num x)) ∧ σ = (nx, sh, P, xTr 126 125 1 I r (shL kd))) := by
  obtain ⟨ff, hff, hkf⟩ := hk6
  subst hkf
  by_cases h1 : undr (nI ff) 1 = true
  · refine m_Acts_run hx hr (by omega) (by omega) (body := 11) ((bd_0 ⟨ff, by omega⟩).trans (if_pos h1)) (da := 3) (by decide) (by decide) ?_
    rw [show shV (nI ff) num x = x * 3 + num from if_pos h1, show shL (nI ff) = 11 :: [1] from if_pos h1]
    exact m_ans11 hx (I := xTr 126 125 1 I r [11]) (r := r + 1) (dp := dp + 1) (hr := (xT1 hr)) (hkd := xT3 hkd) (hnum := xT2 hnum) (hv := xT4 hv) (hr2 := by omega) (hdp := by omega)
  · by_cases h2 : nI ff = 5
    · refine m_Acts_run hx hr (by omega) (by omega) (body := 51) ((bd_0 ⟨ff, by omega⟩).trans ((if_neg h1).trans (if_pos h2))) (da := 3) (by decide) (by decide) ?_
      rw [show shV (nI ff) num x = (x + num) ^^^ num from (if_neg h1).trans (if_pos h2), show shL (nI ff) = 51 :: [1] from (if_neg h1).trans (if_pos h2)]
      exact m_ans51 hx (I := xTr 126 125 1 I r [51]) (r := r + 1) (dp := dp + 1) (hr := (xT1 hr)) (hkd := xT3 hkd) (hnum := xT2 hnum) (hv := xT4 hv) (hr2 := by omega) (hdp := by omega)
    · refine m_Acts_run hx hr (by omega) (by omega) (body := 1) ((bd_0 ⟨ff, by omega⟩).trans ((if_neg h1).trans (if_neg h2))) (da := 0) (by decide) (by decide) ?_
      rw [show shV (nI ff) num x = x + num from (if_neg h1).trans (if_neg h2), show shL (nI ff) = [1] from (if_neg h1).trans (if_neg h2)]
      exact m_ans1 hx (I := xTr 126 125 1 I r [1]) (r := r + 1) (dp := dp + 1) (hr := (xT1 hr)) (hkd := xT3 hkd) (hnum := xT2 hnum) (hv := xT4 hv) (hr2 := by omega) (hdp := by omega)

set_option maxHeartbeats 4000000 in
set_option maxRecDepth 100000 in
theorem m_ans2 {g : xG} {nx : Nat} {sh : Nat → Nat × Nat} {P : Nat → Nat → Option Nat} {I : Nat → Nat → Int32} (hx : xFx sh P) {kd num v x : Int32} {r dp : Nat} (hk6 : ∃ f, f < 7 ∧ kd = nI f) (hr : I 125 1 = nI r) (hkd : I 125 3 = kd) (hnum : I 125 2 = num) (hv : I 125 4 = v) (hr2 : r + 2 ≤ 20) (hdp : dp + 2 ≤ 20) : xMet g Y_Acts_answer 5 0 0 [.ref 125, .int 2, .int x, .int (nI dp)] (nx, sh, P, I) (fun z σ => z = some (.int (ppV kd num v x)) ∧ σ = (nx, sh, P, xTr 126 125 1 I r (shL kd))) := by
  refine xMet.of [some (.ref 125), some (.int 2), some (.int x), some (.int (nI dp))] (by decide +kernel) (Nat.le_of_ble_eq_true rfl) rfl ?_
  refine x_iload_n dX0_answer_0 rfl ?_
  skip
  · skip
    refine x_lookup (off := 90) (tgt := 91) dX0_answer_1 (by decide) (by decide) rfl ?_
    refine x_aload_n dX0_answer_91 rfl ?_
    refine x_aload_n dX0_answer_92 rfl ?_
    refine y_geti dX0_answer_93 F_Acts_22 (fxo_125 hx) rfl hkd ?_
    refine x_iconst (v := 0) dX0_answer_96 (by decide) ?_
    refine x_iload_n dX0_answer_97 rfl ?_
    refine x_iload_n dX0_answer_98 rfl ?_
    refine x_callV (k2 := 0) (n2 := 0) dX0_answer_99 LV_Acts_28 (m_runsh (I := I) (r := r) (dp := dp) hx (hr := hr) (hkd := hkd) (hnum := hnum) (hv := hv) (hr2 := by omega) (hdp := by omega) (hk6 := hk6)) rfl rfl (fxo_125 hx) rfl (Nat.le_of_ble_eq_true rfl) (Nat.le_of_ble_eq_true rfl) (Nat.le_of_ble_eq_true rfl) (Nat.le_of_ble_eq_true rfl) ?_
    rintro _ _ ⟨rfl, rfl⟩
    refine x_aload_n dX0_answer_102 rfl ?_
    refine y_geti dX0_answer_103 F_Acts_25 (fxo_125 hx) rfl (xT4 hv) ?_
    refine x_isub dX0_answer_106 ?_
    refine x_ireturn dX0_answer_107 rfl nb_int ?_
    exact ⟨rfl, rfl⟩

theorem m_run2 {g : xG} {nx : Nat} {sh : Nat → Nat × Nat} {P : Nat → Nat → Option Nat} {I : Nat → Nat → Int32} (hx : xFx sh P) {kd num v x : Int32} {r dp : Nat} {f : Int32} (hr : I 125 1 = nI r) (hkd : I 125 3 = kd) (hnum : I 125 2 = num) (hv : I 125 4 = v) (hf : bdS 7 f 1 = 2) (hk6 : ∃ f, f < 7 ∧ kd = nI f) (hr2 : r + 3 ≤ 20) (hdp : dp + 3 ≤ 20) : xMet g Y_Acts_run 6 0 0 [.ref 125, .int f, .int 1, .int x, .int (nI dp)] (nx, sh, P, I) (fun z σ => z = some (.int (ppV kd num v x)) ∧ σ = (nx, sh, P, xTr 126 125 1 I r (ppL kd))) := by
  refine m_Acts_run hx hr (by omega) (by omega) hf (da := 5) (by decide) (by decide) ?_
  rw [show ppL kd = 2 :: shL kd from rfl]
  exact m_ans2 hx (I := xTr 126 125 1 I r [2]) (r := r + 1) (dp := dp + 1) (hr := (xT1 hr)) (hkd := xT3 hkd) (hnum := xT2 hnum) (hv := xT4 hv) (hr2 := by omega) (hdp := by omega) (hk6 := hk6)

set_option maxHeartbeats 4000000 in
set_option maxRecDepth 100000 in
theorem m_ans21 {g : xG} {nx : Nat} {sh : Nat → Nat × Nat} {P : Nat → Nat → Option Nat} {I : Nat → Nat → Int32} (hx : xFx sh P) {kd num v x : Int32} {r dp : Nat} (hk6 : ∃ f, f < 7 ∧ kd = nI f) (hr : I 125 1 = nI r) (hkd : I 125 3 = kd) (hnum : I 125 2 = num) (hv : I 125 4 = v) (hr2 : r + 3 ≤ 20) (hdp : dp + 3 ≤ 20) : xMet g Y_Acts_answer 7 0 0 [.ref 125, .int 21, .int x, .int (nI dp)] (nx, sh, P, I) (fun z σ => z = some (.int (-(ppV kd num v x))) ∧ σ = (nx, sh, P, xTr 126 125 1 I r (ppL kd))) := by
  refine xMet.of [some (.ref 125), some (.int 21), some (.int x), some (.int (nI dp))] (by decide +kernel) (Nat.le_of_ble_eq_true rfl) rfl ?_
  refine x_iload_n dX0_answer_0 rfl ?_
  skip
  · skip
    refine x_lookup (off := 132) (tgt := 133) dX0_answer_1 (by decide) (by decide) rfl ?_
    refine x_aload_n dX0_answer_133 rfl ?_
    refine x_iconst (v := 0) dX0_answer_134 (by decide) ?_
    refine x_iconst (v := 1) dX0_answer_135 (by decide) ?_
    refine x_iload_n dX0_answer_136 rfl ?_
    refine x_iload_n dX0_answer_137 rfl ?_
    refine x_callV (k2 := 0) (n2 := 0) dX0_answer_138 LV_Acts_28 (m_run2 (I := I) (r := r) (dp := dp) hx (hr := hr) (hkd := hkd) (hnum := hnum) (hv := hv) (hr2 := by omega) (hdp := by omega) (hf := by decide) (hk6 := hk6)) rfl rfl (fxo_125 hx) rfl (Nat.le_of_ble_eq_true rfl) (Nat.le_of_ble_eq_true rfl) (Nat.le_of_ble_eq_true rfl) (Nat.le_of_ble_eq_true rfl) ?_
    rintro _ _ ⟨rfl, rfl⟩
    refine x_ineg dX0_answer_141 ?_
    refine x_ireturn dX0_answer_142 rfl nb_int ?_
    exact ⟨rfl, rfl⟩

set_option maxHeartbeats 4000000 in
set_option maxRecDepth 100000 in
theorem m_ans61 {g : xG} {nx : Nat} {sh : Nat → Nat × Nat} {P : Nat → Nat → Option Nat} {I : Nat → Nat → Int32} (hx : xFx sh P) {kd num v x : Int32} {r dp : Nat} (hk6 : ∃ f, f < 7 ∧ kd = nI f) (hr : I 125 1 = nI r) (hkd : I 125 3 = kd) (hnum : I 125 2 = num) (hv : I 125 4 = v) (hr2 : r + 3 ≤ 20) (hdp : dp + 3 ≤ 20) : xMet g Y_Acts_answer 7 0 0 [.ref 125, .int 61, .int x, .int (nI dp)] (nx, sh, P, I) (fun z σ => z = some (.int (ppV kd num v x + v)) ∧ σ = (nx, sh, P, xTr 126 125 1 I r (ppL kd))) := by
  refine xMet.of [some (.ref 125), some (.int 61), some (.int x), some (.int (nI dp))] (by decide +kernel) (Nat.le_of_ble_eq_true rfl) rfl ?_
  refine x_iload_n dX0_answer_0 rfl ?_
  skip
  · skip
    refine x_lookup (off := 191) (tgt := 192) dX0_answer_1 (by decide) (by decide) rfl ?_
    refine x_aload_n dX0_answer_192 rfl ?_
    refine x_iconst (v := 3) dX0_answer_193 (by decide) ?_
    refine x_iconst (v := 1) dX0_answer_194 (by decide) ?_
    refine x_iload_n dX0_answer_195 rfl ?_
    refine x_iload_n dX0_answer_196 rfl ?_
    refine x_callV (k2 := 0) (n2 := 0) dX0_answer_197 LV_Acts_28 (m_run2 (I := I) (r := r) (dp := dp) hx (hr := hr) (hkd := hkd) (hnum := hnum) (hv := hv) (hr2 := by omega) (hdp := by omega) (hf := by decide) (hk6 := hk6)) rfl rfl (fxo_125 hx) rfl (Nat.le_of_ble_eq_true rfl) (Nat.le_of_ble_eq_true rfl) (Nat.le_of_ble_eq_true rfl) (Nat.le_of_ble_eq_true rfl) ?_
    rintro _ _ ⟨rfl, rfl⟩
    refine x_aload_n dX0_answer_200 rfl ?_
    refine y_geti dX0_answer_201 F_Acts_25 (fxo_125 hx) rfl (xT4 hv) ?_
    refine x_iadd dX0_answer_204 ?_
    refine x_ireturn dX0_answer_205 rfl nb_int ?_
    exact ⟨rfl, rfl⟩

theorem m_runpa {g : xG} {nx : Nat} {sh : Nat → Nat × Nat} {P : Nat → Nat → Option Nat} {I : Nat → Nat → Int32} (hx : xFx sh P) {kd num v x : Int32} {r dp : Nat} (hr : I 125 1 = nI r) (hkd : I 125 3 = kd) (hnum : I 125 2 = num) (hv : I 125 4 = v) (hk6 : ∃ f, f < 7 ∧ kd = nI f) (hr2 : r + 4 ≤ 20) (hdp : dp + 4 ≤ 20) : xMet g Y_Acts_run 8 0 0 [.ref 125, .int kd, .int 1, .int x, .int (nI dp)] (nx, sh, P, I) (fun z σ => z = some (.int (paV kd num v x)) ∧ σ = (nx, sh, P, xTr 126 125 1 I r (paL kd))) := by
  obtain ⟨ff, hff, hkf⟩ := hk6
  subst hkf
  by_cases h1 : undr (nI ff) 2 = true
  · refine m_Acts_run hx hr (by omega) (by omega) (body := 21) ((bd_1 ⟨ff, by omega⟩).trans (if_pos h1)) (da := 7) (by decide) (by decide) ?_
    rw [show paV (nI ff) num v x = -(ppV (nI ff) num v x) from if_pos h1, show paL (nI ff) = 21 :: ppL (nI ff) from if_pos h1]
    exact m_ans21 hx (I := xTr 126 125 1 I r [21]) (r := r + 1) (dp := dp + 1) (hr := (xT1 hr)) (hkd := xT3 hkd) (hnum := xT2 hnum) (hv := xT4 hv) (hr2 := by omega) (hdp := by omega) (hk6 := ⟨ff, hff, rfl⟩)
  · by_cases h2 : nI ff = 6
    · refine m_Acts_run hx hr (by omega) (by omega) (body := 61) ((bd_1 ⟨ff, by omega⟩).trans ((if_neg h1).trans (if_pos h2))) (da := 7) (by decide) (by decide) ?_
      rw [show paV (nI ff) num v x = ppV (nI ff) num v x + v from (if_neg h1).trans (if_pos h2), show paL (nI ff) = 61 :: ppL (nI ff) from (if_neg h1).trans (if_pos h2)]
      exact m_ans61 hx (I := xTr 126 125 1 I r [61]) (r := r + 1) (dp := dp + 1) (hr := (xT1 hr)) (hkd := xT3 hkd) (hnum := xT2 hnum) (hv := xT4 hv) (hr2 := by omega) (hdp := by omega) (hk6 := ⟨ff, hff, rfl⟩)
    · refine m_Acts_run hx hr (by omega) (by omega) (body := 2) ((bd_1 ⟨ff, by omega⟩).trans ((if_neg h1).trans (if_neg h2))) (da := 5) (by decide) (by decide) ?_
      rw [show paV (nI ff) num v x = ppV (nI ff) num v x from (if_neg h1).trans (if_neg h2), show paL (nI ff) = ppL (nI ff) from (if_neg h1).trans (if_neg h2)]
      exact m_ans2 hx (I := xTr 126 125 1 I r [2]) (r := r + 1) (dp := dp + 1) (hr := (xT1 hr)) (hkd := xT3 hkd) (hnum := xT2 hnum) (hv := xT4 hv) (hr2 := by omega) (hdp := by omega) (hk6 := ⟨ff, hff, rfl⟩)

set_option maxHeartbeats 4000000 in
set_option maxRecDepth 100000 in
theorem m_ans3 {g : xG} {nx : Nat} {sh : Nat → Nat × Nat} {P : Nat → Nat → Option Nat} {I : Nat → Nat → Int32} (hx : xFx sh P) {kd num v x : Int32} {r dp : Nat} (hk6 : ∃ f, f < 7 ∧ kd = nI f) (hr : I 125 1 = nI r) (hkd : I 125 3 = kd) (hnum : I 125 2 = num) (hv : I 125 4 = v) (hr2 : r + 4 ≤ 20) (hdp : dp + 4 ≤ 20) : xMet g Y_Acts_answer 9 0 0 [.ref 125, .int 3, .int x, .int (nI dp)] (nx, sh, P, I) (fun z σ => z = some (.int (ptV kd num v x)) ∧ σ = (nx, sh, P, xTr 126 125 1 I r (paL kd))) := by
  refine xMet.of [some (.ref 125), some (.int 3), some (.int x), some (.int (nI dp))] (by decide +kernel) (Nat.le_of_ble_eq_true rfl) rfl ?_
  refine x_iload_n dX0_answer_0 rfl ?_
  skip
  · skip
    refine x_lookup (off := 107) (tgt := 108) dX0_answer_1 (by decide) (by decide) rfl ?_
    refine x_aload_n dX0_answer_108 rfl ?_
    refine x_aload_n dX0_answer_109 rfl ?_
    refine y_geti dX0_answer_110 F_Acts_22 (fxo_125 hx) rfl hkd ?_
    refine x_iconst (v := 1) dX0_answer_113 (by decide) ?_
    refine x_iload_n dX0_answer_114 rfl ?_
    refine x_iload_n dX0_answer_115 rfl ?_
    refine x_callV (k2 := 0) (n2 := 0) dX0_answer_116 LV_Acts_28 (m_runpa (I := I) (r := r) (dp := dp) hx (hr := hr) (hkd := hkd) (hnum := hnum) (hv := hv) (hr2 := by omega) (hdp := by omega) (hk6 := hk6)) rfl rfl (fxo_125 hx) rfl (Nat.le_of_ble_eq_true rfl) (Nat.le_of_ble_eq_true rfl) (Nat.le_of_ble_eq_true rfl) (Nat.le_of_ble_eq_true rfl) ?_
    rintro _ _ ⟨rfl, rfl⟩
    refine x_iconst (v := 2) dX0_answer_119 (by decide) ?_
    refine x_imul dX0_answer_120 ?_
    refine x_ireturn dX0_answer_121 rfl nb_int ?_
    exact ⟨rfl, rfl⟩

theorem m_run3 {g : xG} {nx : Nat} {sh : Nat → Nat × Nat} {P : Nat → Nat → Option Nat} {I : Nat → Nat → Int32} (hx : xFx sh P) {kd num v x : Int32} {r dp : Nat} {f : Int32} (hr : I 125 1 = nI r) (hkd : I 125 3 = kd) (hnum : I 125 2 = num) (hv : I 125 4 = v) (hf : bdS 7 f 2 = 3) (hk6 : ∃ f, f < 7 ∧ kd = nI f) (hr2 : r + 5 ≤ 20) (hdp : dp + 5 ≤ 20) : xMet g Y_Acts_run 10 0 0 [.ref 125, .int f, .int 2, .int x, .int (nI dp)] (nx, sh, P, I) (fun z σ => z = some (.int (ptV kd num v x)) ∧ σ = (nx, sh, P, xTr 126 125 1 I r (ptL kd))) := by
  refine m_Acts_run hx hr (by omega) (by omega) hf (da := 9) (by decide) (by decide) ?_
  rw [show ptL kd = 3 :: paL kd from rfl]
  exact m_ans3 hx (I := xTr 126 125 1 I r [3]) (r := r + 1) (dp := dp + 1) (hr := (xT1 hr)) (hkd := xT3 hkd) (hnum := xT2 hnum) (hv := xT4 hv) (hr2 := by omega) (hdp := by omega) (hk6 := hk6)

set_option maxHeartbeats 4000000 in
set_option maxRecDepth 100000 in
theorem m_ans31 {g : xG} {nx : Nat} {sh : Nat → Nat × Nat} {P : Nat → Nat → Option Nat} {I : Nat → Nat → Int32} (hx : xFx sh P) {kd num v x : Int32} {r dp : Nat} (hk6 : ∃ f, f < 7 ∧ kd = nI f) (hr : I 125 1 = nI r) (hkd : I 125 3 = kd) (hnum : I 125 2 = num) (hv : I 125 4 = v) (hr2 : r + 5 ≤ 20) (hdp : dp + 5 ≤ 20) : xMet g Y_Acts_answer 11 0 0 [.ref 125, .int 31, .int x, .int (nI dp)] (nx, sh, P, I) (fun z σ => z = some (.int (ptV kd num v x ^^^ 7)) ∧ σ = (nx, sh, P, xTr 126 125 1 I r (ptL kd))) := by
  refine xMet.of [some (.ref 125), some (.int 31), some (.int x), some (.int (nI dp))] (by decide +kernel) (Nat.le_of_ble_eq_true rfl) rfl ?_
  refine x_iload_n dX0_answer_0 rfl ?_
  skip
  · skip
    refine x_lookup (off := 142) (tgt := 143) dX0_answer_1 (by decide) (by decide) rfl ?_
    refine x_aload_n dX0_answer_143 rfl ?_
    refine x_iconst (v := 0) dX0_answer_144 (by decide) ?_
    refine x_iconst (v := 2) dX0_answer_145 (by decide) ?_
    refine x_iload_n dX0_answer_146 rfl ?_
    refine x_iload_n dX0_answer_147 rfl ?_
    refine x_callV (k2 := 0) (n2 := 0) dX0_answer_148 LV_Acts_28 (m_run3 (I := I) (r := r) (dp := dp) hx (hr := hr) (hkd := hkd) (hnum := hnum) (hv := hv) (hr2 := by omega) (hdp := by omega) (hf := by decide) (hk6 := hk6)) rfl rfl (fxo_125 hx) rfl (Nat.le_of_ble_eq_true rfl) (Nat.le_of_ble_eq_true rfl) (Nat.le_of_ble_eq_true rfl) (Nat.le_of_ble_eq_true rfl) ?_
    rintro _ _ ⟨rfl, rfl⟩
    refine x_bipush (v := 7) dX0_answer_151 (by decide) ?_
    refine x_ixor dX0_answer_153 ?_
    refine x_ireturn dX0_answer_154 rfl nb_int ?_
    exact ⟨rfl, rfl⟩

set_option maxHeartbeats 4000000 in
set_option maxRecDepth 100000 in
theorem m_ans41 {g : xG} {nx : Nat} {sh : Nat → Nat × Nat} {P : Nat → Nat → Option Nat} {I : Nat → Nat → Int32} (hx : xFx sh P) {kd num v x : Int32} {r dp : Nat} (hk6 : ∃ f, f < 7 ∧ kd = nI f) (hr : I 125 1 = nI r) (hkd : I 125 3 = kd) (hnum : I 125 2 = num) (hv : I 125 4 = v) (hr2 : r + 7 ≤ 20) (hdp : dp + 5 ≤ 20) : xMet g Y_Acts_answer 11 0 0 [.ref 125, .int 41, .int x, .int (nI dp)] (nx, sh, P, I) (fun z σ => z = some (.int (ptV kd num v (x - 1) + shV kd num 2)) ∧ σ = (nx, sh, P, xTr 126 125 1 I r (ptL kd ++ shL kd))) := by
  refine xMet.of [some (.ref 125), some (.int 41), some (.int x), some (.int (nI dp))] (by decide +kernel) (Nat.le_of_ble_eq_true rfl) rfl ?_
  refine x_iload_n dX0_answer_0 rfl ?_
  skip
  · skip
    refine x_lookup (off := 154) (tgt := 155) dX0_answer_1 (by decide) (by decide) rfl ?_
    refine x_aload_n dX0_answer_155 rfl ?_
    refine x_iconst (v := 1) dX0_answer_156 (by decide) ?_
    refine x_iconst (v := 2) dX0_answer_157 (by decide) ?_
    refine x_iload_n dX0_answer_158 rfl ?_
    refine x_iconst (v := 1) dX0_answer_159 (by decide) ?_
    refine x_isub dX0_answer_160 ?_
    refine x_iload_n dX0_answer_161 rfl ?_
    refine x_callV (k2 := 0) (n2 := 0) dX0_answer_162 LV_Acts_28 (m_run3 (x := x - 1) (I := I) (r := r) (dp := dp) hx (hr := hr) (hkd := hkd) (hnum := hnum) (hv := hv) (hr2 := by omega) (hdp := by omega) (hf := by decide) (hk6 := hk6)) rfl rfl (fxo_125 hx) rfl (Nat.le_of_ble_eq_true rfl) (Nat.le_of_ble_eq_true rfl) (Nat.le_of_ble_eq_true rfl) (Nat.le_of_ble_eq_true rfl) ?_
    rintro _ _ ⟨rfl, rfl⟩
    refine x_aload_n dX0_answer_165 rfl ?_
    refine x_aload_n dX0_answer_166 rfl ?_
    refine y_geti dX0_answer_167 F_Acts_22 (fxo_125 hx) rfl (xT3 hkd) ?_
    refine x_iconst (v := 0) dX0_answer_170 (by decide) ?_
    refine x_iconst (v := 2) dX0_answer_171 (by decide) ?_
    refine x_iload_n dX0_answer_172 rfl ?_
    have hpl := ptL_l (kd := kd)
    refine x_callV (k2 := 0) (n2 := 0) dX0_answer_173 LV_Acts_28 (m_runsh (I := xTr 126 125 1 I r (ptL kd)) (r := r + (ptL kd).length) (x := 2) hx (hr := xT1 hr) (hkd := xT3 hkd) (hnum := xT2 hnum) (hv := xT4 hv) (hr2 := by omega) (hdp := by omega) (hk6 := hk6)) rfl rfl (fxo_125 hx) rfl (Nat.le_of_ble_eq_true rfl) (Nat.le_of_ble_eq_true rfl) (Nat.le_of_ble_eq_true rfl) (Nat.le_of_ble_eq_true rfl) ?_
    rintro _ _ ⟨rfl, rfl⟩
    refine x_iadd dX0_answer_176 ?_
    refine x_ireturn dX0_answer_177 rfl nb_int ?_
    exact ⟨rfl, by rw [xTr_app]⟩

theorem m_runte {g : xG} {nx : Nat} {sh : Nat → Nat × Nat} {P : Nat → Nat → Option Nat} {I : Nat → Nat → Int32} (hx : xFx sh P) {kd num v x : Int32} {r dp : Nat} (hr : I 125 1 = nI r) (hkd : I 125 3 = kd) (hnum : I 125 2 = num) (hv : I 125 4 = v) (hk6 : ∃ f, f < 7 ∧ kd = nI f) (hr2 : r + 8 ≤ 20) (hdp : dp + 6 ≤ 20) : xMet g Y_Acts_run 12 0 0 [.ref 125, .int kd, .int 2, .int x, .int (nI dp)] (nx, sh, P, I) (fun z σ => z = some (.int (teV kd num v x)) ∧ σ = (nx, sh, P, xTr 126 125 1 I r (teL kd))) := by
  obtain ⟨ff, hff, hkf⟩ := hk6
  subst hkf
  by_cases h1 : undr (nI ff) 3 = true
  · refine m_Acts_run hx hr (by omega) (by omega) (body := 31) ((bd_2 ⟨ff, by omega⟩).trans (if_pos h1)) (da := 11) (by decide) (by decide) ?_
    rw [show teV (nI ff) num v x = ptV (nI ff) num v x ^^^ 7 from if_pos h1, show teL (nI ff) = 31 :: ptL (nI ff) from if_pos h1]
    exact m_ans31 hx (I := xTr 126 125 1 I r [31]) (r := r + 1) (dp := dp + 1) (hr := (xT1 hr)) (hkd := xT3 hkd) (hnum := xT2 hnum) (hv := xT4 hv) (hr2 := by omega) (hdp := by omega) (hk6 := ⟨ff, hff, rfl⟩)
  · by_cases h2 : nI ff = 4
    · refine m_Acts_run hx hr (by omega) (by omega) (body := 41) ((bd_2 ⟨ff, by omega⟩).trans ((if_neg h1).trans (if_pos h2))) (da := 11) (by decide) (by decide) ?_
      rw [show teV (nI ff) num v x = ptV (nI ff) num v (x - 1) + shV (nI ff) num 2 from (if_neg h1).trans (if_pos h2), show teL (nI ff) = 41 :: (ptL (nI ff) ++ shL (nI ff)) from (if_neg h1).trans (if_pos h2)]
      exact m_ans41 hx (I := xTr 126 125 1 I r [41]) (r := r + 1) (dp := dp + 1) (hr := (xT1 hr)) (hkd := xT3 hkd) (hnum := xT2 hnum) (hv := xT4 hv) (hr2 := by omega) (hdp := by omega) (hk6 := ⟨ff, hff, rfl⟩)
    · refine m_Acts_run hx hr (by omega) (by omega) (body := 3) ((bd_2 ⟨ff, by omega⟩).trans ((if_neg h1).trans (if_neg h2))) (da := 9) (by decide) (by decide) ?_
      rw [show teV (nI ff) num v x = ptV (nI ff) num v x from (if_neg h1).trans (if_neg h2), show teL (nI ff) = ptL (nI ff) from (if_neg h1).trans (if_neg h2)]
      exact m_ans3 hx (I := xTr 126 125 1 I r [3]) (r := r + 1) (dp := dp + 1) (hr := (xT1 hr)) (hkd := xT3 hkd) (hnum := xT2 hnum) (hv := xT4 hv) (hr2 := by omega) (hdp := by omega) (hk6 := ⟨ff, hff, rfl⟩)
