/-! the law: its loop -/
theorem and_63 (x : Int32) : ∃ z, z < 64 ∧ x &&& 63 = nI z := ⟨(x &&& 63).toBitVec.toNat, by rw [Int32.toBitVec_and, BitVec.toNat_and]; exact Nat.and_lt_two_pow (n := 6) _ (by decide), Int32.toBitVec_inj.mp (by show _ = BitVec.ofNat 32 _; rw [BitVec.ofNat_toNat, BitVec.setWidth_eq])⟩
theorem tab_40 : ∀ z : Fin 64, 40 ≤ z.1 → (39 : Int) < (nI z.1).toInt := by decide +kernel
set_option maxHeartbeats 8000000 in
set_option maxRecDepth 100000 in
theorem lw_loop {g : xG} {nm : String} {Q : Option Value → xS → Prop} (hL : g.2.2.2.2.2.2.1 ≤ 3072) (hQ : ∀ σ, Q (some (.int 1)) σ) : ∀ (f i nx : Nat) (sh : Nat → Nat × Nat) (P : Nat → Nat → Option Nat) (I : Nat → Nat → Int32), xIv nx sh P I → i ≤ 3072 → g.2.2.2.2.2.2.1 ≤ i + 6 * f + 5 → xX g (Y_law nm) 30 (22 * f) (1042 * f) Q 18 (lwL i) [] (nx, sh, P, I) := by
  intro f
  induction f with
  | zero =>
    intro i nx sh P I h hi hf
    refine x_iload_n dL_law_18 rfl ?_
    refine x_aload_n dL_law_19 rfl ?_
    refine x_oalen dL_law_20 xOa_S ?_
    refine x_bipush (v := 6) dL_law_21 (by decide) ?_
    refine x_isub dL_law_23 ?_
    refine x_icmp_gt (tgt := 1328) dL_law_24 rfl (fun c => ?_) (fun c => ?_)
    · refine x_iconst (v := 1) dL_law_1328 (by decide) ?_
      exact x_ireturn dL_law_1329 rfl rfl (hQ _)
    · exfalso
      have e : (nI g.2.2.2.2.2.2.1 - 6).toInt = (g.2.2.2.2.2.2.1 : Int) - 6 := i_sub (nI_toInt (by omega)) rfl (by omega) (by omega)
      have h9 : ¬ (nI g.2.2.2.2.2.2.1 - 6).toInt < (nI i).toInt := mt Int32.lt_iff_toInt_lt.mpr c
      rw [e, nI_toInt (by omega)] at h9
      omega
  | succ f ih =>
    intro i nx sh P I h hi hf
    refine x_iload_n dL_law_18 rfl ?_
    refine x_aload_n dL_law_19 rfl ?_
    refine x_oalen dL_law_20 xOa_S ?_
    refine x_bipush (v := 6) dL_law_21 (by decide) ?_
    refine x_isub dL_law_23 ?_
    refine x_icmp_gt (tgt := 1328) dL_law_24 rfl (fun c => ?_) (fun c => ?_)
    · refine x_iconst (v := 1) dL_law_1328 (by decide) ?_
      exact x_ireturn dL_law_1329 rfl rfl (hQ _)
    · have hi6 : i + 6 ≤ g.2.2.2.2.2.2.1 := by
        have e : (nI g.2.2.2.2.2.2.1 - 6).toInt = (g.2.2.2.2.2.2.1 : Int) - 6 := i_sub (nI_toInt (by omega)) rfl (by omega) (by omega)
        have h9 : ¬ (nI g.2.2.2.2.2.2.1 - 6).toInt < (nI i).toInt := mt Int32.lt_iff_toInt_lt.mpr c
        rw [e, nI_toInt (by omega)] at h9
        omega
      have kk : xLp g nm Q i (22 * f) (1042 * f) := fun nx sh P I h => by
        refine x_iinc (v := nI (i + 6)) dL_law_1322 rfl (nI_add i 6) (Nat.le_of_ble_eq_true rfl) ?_
        try simp only [xst, xst2, xclr, xset, xwide]
        refine x_goto (tgt := 18) dL_law_1325 rfl ?_
        exact ih (i + 6) nx sh P I h (by omega) (by omega)
      refine x_aload_n dL_law_27 rfl ?_
      refine x_iload_n dL_law_28 rfl ?_
      refine x_oaload dL_law_29 xOa_S (vi (j := i) rfl (by omega) (by omega)) ?_
      rw [nI_clamp (by omega)]
      refine x_bipush (v := 63) dL_law_30 (by decide) ?_
      refine x_iand dL_law_32 ?_
      obtain ⟨z, hz, ez⟩ := and_63 (g.2.2.2.2.2.2.2 i)
      rw [ez]
      rcases (show z = 0 ∨ z = 1 ∨ z = 2 ∨ z = 3 ∨ z = 4 ∨ z = 5 ∨ z = 6 ∨ z = 7 ∨ z = 8 ∨ z = 9 ∨ z = 10 ∨ z = 11 ∨ z = 12 ∨ z = 13 ∨ z = 14 ∨ z = 15 ∨ z = 16 ∨ z = 17 ∨ z = 18 ∨ z = 19 ∨ z = 20 ∨ z = 21 ∨ z = 22 ∨ z = 23 ∨ z = 24 ∨ z = 25 ∨ z = 26 ∨ z = 27 ∨ z = 28 ∨ z = 29 ∨ z = 30 ∨ z = 31 ∨ z = 32 ∨ z = 33 ∨ z = 34 ∨ z = 35 ∨ z = 36 ∨ z = 37 ∨ z = 38 ∨ z = 39 ∨ 40 ≤ z by omega) with rfl | rfl | rfl | rfl | rfl | rfl | rfl | rfl | rfl | rfl | rfl | rfl | rfl | rfl | rfl | rfl | rfl | rfl | rfl | rfl | rfl | rfl | rfl | rfl | rfl | rfl | rfl | rfl | rfl | rfl | rfl | rfl | rfl | rfl | rfl | rfl | rfl | rfl | rfl | rfl | h40
      · refine x_tableIn (off := 175) (tgt := 208) dL_law_33 (by decide) (by decide) rfl rfl ?_
        exact (lw_c_feed (k := 22 * f) (n := 1042 * f) h hL hi6 kk).more (by omega) (by omega)
      · refine x_tableIn (off := 198) (tgt := 231) dL_law_33 (by decide) (by decide) rfl rfl ?_
        exact (lw_c_land (k := 22 * f) (n := 1042 * f) h hL hi6 kk).more (by omega) (by omega)
      · refine x_tableIn (off := 211) (tgt := 244) dL_law_33 (by decide) (by decide) rfl rfl ?_
        exact (lw_c_coin (k := 22 * f) (n := 1042 * f) h hL hi6 kk).more (by omega) (by omega)
      · refine x_tableIn (off := 264) (tgt := 297) dL_law_33 (by decide) (by decide) rfl rfl ?_
        exact (lw_c_of (k := 22 * f) (n := 1042 * f) h hL hi6 kk).more (by omega) (by omega)
      · refine x_tableIn (off := 297) (tgt := 330) dL_law_33 (by decide) (by decide) rfl rfl ?_
        exact (lw_c_row (k := 22 * f) (n := 1042 * f) h hL hi6 kk).more (by omega) (by omega)
      · refine x_tableIn (off := 340) (tgt := 373) dL_law_33 (by decide) (by decide) rfl rfl ?_
        exact (lw_c_set (k := 22 * f) (n := 1042 * f) h hL hi6 kk).more (by omega) (by omega)
      · refine x_tableIn (off := 383) (tgt := 416) dL_law_33 (by decide) (by decide) rfl rfl ?_
        exact (lw_c_ware (k := 22 * f) (n := 1042 * f) h hL hi6 kk).more (by omega) (by omega)
      · refine x_tableIn (off := 406) (tgt := 439) dL_law_33 (by decide) (by decide) rfl rfl ?_
        exact (lw_c_pass (k := 22 * f) (n := 1042 * f) h hL hi6 kk).more (by omega) (by omega)
      · refine x_tableIn (off := 429) (tgt := 462) dL_law_33 (by decide) (by decide) rfl rfl ?_
        exact (lw_c_told (k := 22 * f) (n := 1042 * f) h hL hi6 kk).more (by omega) (by omega)
      · refine x_tableIn (off := 452) (tgt := 485) dL_law_33 (by decide) (by decide) rfl rfl ?_
        exact (lw_c_buy (k := 22 * f) (n := 1042 * f) h hL hi6 kk).more (by omega) (by omega)
      · refine x_tableIn (off := 515) (tgt := 548) dL_law_33 (by decide) (by decide) rfl rfl ?_
        exact (lw_c_left (k := 22 * f) (n := 1042 * f) h hL hi6 kk).more (by omega) (by omega)
      · refine x_tableIn (off := 528) (tgt := 561) dL_law_33 (by decide) (by decide) rfl rfl ?_
        exact (lw_c_range (k := 22 * f) (n := 1042 * f) h hL hi6 kk).more (by omega) (by omega)
      · refine x_tableIn (off := 561) (tgt := 594) dL_law_33 (by decide) (by decide) rfl rfl ?_
        exact (lw_c_known (k := 22 * f) (n := 1042 * f) h hL hi6 kk).more (by omega) (by omega)
      · refine x_tableIn (off := 574) (tgt := 607) dL_law_33 (by decide) (by decide) rfl rfl ?_
        exact (lw_c_likely (k := 22 * f) (n := 1042 * f) h hL hi6 kk).more (by omega) (by omega)
      · refine x_tableIn (off := 618) (tgt := 651) dL_law_33 (by decide) (by decide) rfl rfl ?_
        exact (lw_c_alike (k := 22 * f) (n := 1042 * f) h hL hi6 kk).more (by omega) (by omega)
      · refine x_tableIn (off := 651) (tgt := 684) dL_law_33 (by decide) (by decide) rfl rfl ?_
        exact (lw_c_wrong (k := 22 * f) (n := 1042 * f) h hL hi6 kk).more (by omega) (by omega)
      · refine x_tableIn (off := 664) (tgt := 697) dL_law_33 (by decide) (by decide) rfl rfl ?_
        exact (lw_c_cheated (k := 22 * f) (n := 1042 * f) h hL hi6 kk).more (by omega) (by omega)
      · refine x_tableIn (off := 677) (tgt := 710) dL_law_33 (by decide) (by decide) rfl rfl ?_
        exact (lw_c_hold (k := 22 * f) (n := 1042 * f) h hL hi6 kk).more (by omega) (by omega)
      · refine x_tableIn (off := 700) (tgt := 733) dL_law_33 (by decide) (by decide) rfl rfl ?_
        exact (lw_c_pay (k := 22 * f) (n := 1042 * f) h hL hi6 kk).more (by omega) (by omega)
      · refine x_tableIn (off := 733) (tgt := 766) dL_law_33 (by decide) (by decide) rfl rfl ?_
        exact (lw_c_ways (k := 22 * f) (n := 1042 * f) h hL hi6 kk).more (by omega) (by omega)
      · refine x_tableIn (off := 756) (tgt := 789) dL_law_33 (by decide) (by decide) rfl rfl ?_
        exact (lw_c_change (k := 22 * f) (n := 1042 * f) h hL hi6 kk).more (by omega) (by omega)
      · refine x_tableIn (off := 779) (tgt := 812) dL_law_33 (by decide) (by decide) rfl rfl ?_
        exact (lw_c_never (k := 22 * f) (n := 1042 * f) h hL hi6 kk).more (by omega) (by omega)
      · refine x_tableIn (off := 792) (tgt := 825) dL_law_33 (by decide) (by decide) rfl rfl ?_
        exact (lw_c_carry (k := 22 * f) (n := 1042 * f) h hL hi6 kk).more (by omega) (by omega)
      · refine x_tableIn (off := 825) (tgt := 858) dL_law_33 (by decide) (by decide) rfl rfl ?_
        exact (lw_c_rate (k := 22 * f) (n := 1042 * f) h hL hi6 kk).more (by omega) (by omega)
      · refine x_tableIn (off := 869) (tgt := 902) dL_law_33 (by decide) (by decide) rfl rfl ?_
        exact (lw_c_bought (k := 22 * f) (n := 1042 * f) h hL hi6 kk).more (by omega) (by omega)
      · refine x_tableIn (off := 902) (tgt := 935) dL_law_33 (by decide) (by decide) rfl rfl ?_
        exact (lw_c_slate (k := 22 * f) (n := 1042 * f) h hL hi6 kk).more (by omega) (by omega)
      · refine x_tableIn (off := 945) (tgt := 978) dL_law_33 (by decide) (by decide) rfl rfl ?_
        exact (lw_c_counts (k := 22 * f) (n := 1042 * f) h hL hi6 kk).more (by omega) (by omega)
      · refine x_tableIn (off := 968) (tgt := 1001) dL_law_33 (by decide) (by decide) rfl rfl ?_
        exact (lw_c_odds (k := 22 * f) (n := 1042 * f) h hL hi6 kk).more (by omega) (by omega)
      · refine x_tableIn (off := 1002) (tgt := 1035) dL_law_33 (by decide) (by decide) rfl rfl ?_
        exact (lw_c_mean (k := 22 * f) (n := 1042 * f) h hL hi6 kk).more (by omega) (by omega)
      · refine x_tableIn (off := 1026) (tgt := 1059) dL_law_33 (by decide) (by decide) rfl rfl ?_
        exact (lw_c_lasting (k := 22 * f) (n := 1042 * f) h hL hi6 kk).more (by omega) (by omega)
      · refine x_tableIn (off := 1049) (tgt := 1082) dL_law_33 (by decide) (by decide) rfl rfl ?_
        exact (lw_c_plan (k := 22 * f) (n := 1042 * f) h hL hi6 kk).more (by omega) (by omega)
      · refine x_tableIn (off := 1072) (tgt := 1105) dL_law_33 (by decide) (by decide) rfl rfl ?_
        exact (lw_c_made (k := 22 * f) (n := 1042 * f) h hL hi6 kk).more (by omega) (by omega)
      · refine x_tableIn (off := 1095) (tgt := 1128) dL_law_33 (by decide) (by decide) rfl rfl ?_
        exact (lw_c_book (k := 22 * f) (n := 1042 * f) h hL hi6 kk).more (by omega) (by omega)
      · refine x_tableIn (off := 1128) (tgt := 1161) dL_law_33 (by decide) (by decide) rfl rfl ?_
        exact (lw_c_looked (k := 22 * f) (n := 1042 * f) h hL hi6 kk).more (by omega) (by omega)
      · refine x_tableIn (off := 1141) (tgt := 1174) dL_law_33 (by decide) (by decide) rfl rfl ?_
        exact (lw_c_act (k := 22 * f) (n := 1042 * f) h hL hi6 kk).more (by omega) (by omega)
      · refine x_tableIn (off := 1184) (tgt := 1217) dL_law_33 (by decide) (by decide) rfl rfl ?_
        exact (lw_c_trace (k := 22 * f) (n := 1042 * f) h hL hi6 kk).more (by omega) (by omega)
      · refine x_tableIn (off := 1207) (tgt := 1240) dL_law_33 (by decide) (by decide) rfl rfl ?_
        exact (lw_c_as (k := 22 * f) (n := 1042 * f) h hL hi6 kk).more (by omega) (by omega)
      · refine x_tableIn (off := 1240) (tgt := 1273) dL_law_33 (by decide) (by decide) rfl rfl ?_
        exact (lw_c_image (k := 22 * f) (n := 1042 * f) h hL hi6 kk).more (by omega) (by omega)
      · refine x_tableIn (off := 1253) (tgt := 1286) dL_law_33 (by decide) (by decide) rfl rfl ?_
        exact (lw_c_undo (k := 22 * f) (n := 1042 * f) h hL hi6 kk).more (by omega) (by omega)
      · refine x_tableIn (off := 1266) (tgt := 1299) dL_law_33 (by decide) (by decide) rfl rfl ?_
        exact (lw_c_count (k := 22 * f) (n := 1042 * f) h hL hi6 kk).more (by omega) (by omega)
      · refine x_tableOut (tgt := 1322) dL_law_33 (Or.inr (tab_40 ⟨z, hz⟩ h40)) rfl ?_
        exact (kk _ _ _ _ h).more (by omega) (by omega)
