/-! THE PURE PART, 102: the law's loop -/
theorem Ku.rf {s : Sn} : Ku s s := ⟨rfl, rfl, by omega, by omega⟩
theorem b64 (x : Int32) : ∃ b, b < 64 ∧ x &&& 63 = nI b := by
  refine ⟨(x.toBitVec &&& 63#32).toNat, ?_, ?_⟩
  · rw [BitVec.toNat_and]
    exact Nat.lt_of_le_of_lt Nat.and_le_right (by decide)
  · apply Int32.toBitVec_inj.mp
    show x.toBitVec &&& 63#32 = BitVec.ofNat 32 (x.toBitVec &&& 63#32).toNat
    rw [BitVec.ofNat_toNat, BitVec.setWidth_eq]
theorem lt_six {L i : Nat} (hL : L ≤ 3072) (hi : i ≤ 4000) : nI L - 6 < nI i ↔ L < i + 6 := by
  rw [show (6 : Int32) = nI 6 from rfl, Int32.lt_iff_toInt_lt, Int32.toInt_sub, nI_toInt (by omega), nI_toInt (by omega), nI_toInt (by omega)]
  unfold Int.bmod
  dsimp only
  split <;> omega
theorem l_sw {d L i j : Nat} {s : Sn} {P : Option Av → St → Prop} (hj : j < 64) (hs : s.2.2.1.1 = L) (hi : i + 6 ≤ L) (hL : L ≤ 3072) (hI : INV s) (kk : ∀ u, INV u → Ku s u → Wp (d + 9) ML_law 1506 [some (vR 0 0 0), some (vR 10 0 0), some (vR 40 0 0), some (vI (nI i))] [] (hN u) P) : Wp (d + 9) ML_law 33 [some (vR 0 0 0), some (vR 10 0 0), some (vR 40 0 0), some (vI (nI i))] [vI (nI j)] (hN s) P := by
  match j, hj with
  | 0, _ => exact wp_tswI (o := 191) (t := 224) 0 dL_law_33 (by decide) (by decide) rfl rfl (a_log hs hi hL hI kk)
  | 1, _ => exact wp_tswI (o := 234) (t := 267) 1 dL_law_33 (by decide) (by decide) rfl rfl (a_told hs hi hL hI kk)
  | 2, _ => exact wp_tswI (o := 267) (t := 300) 2 dL_law_33 (by decide) (by decide) rfl rfl (a_as hs hi hL hI kk)
  | 3, _ => exact wp_tswI (o := 300) (t := 333) 3 dL_law_33 (by decide) (by decide) rfl rfl (a_turns hs hi hL hI kk)
  | 4, _ => exact wp_tswI (o := 333) (t := 366) 4 dL_law_33 (by decide) (by decide) rfl rfl (a_set hs hi hL hI kk)
  | 5, _ => exact wp_tswI (o := 376) (t := 409) 5 dL_law_33 (by decide) (by decide) rfl rfl (a_lays hs hi hL hI kk)
  | 6, _ => exact wp_tswI (o := 409) (t := 442) 6 dL_law_33 (by decide) (by decide) rfl rfl (a_reach hs hi hL hI kk)
  | 7, _ => exact wp_tswI (o := 452) (t := 485) 7 dL_law_33 (by decide) (by decide) rfl rfl (a_rule hs hi hL hI kk)
  | 8, _ => exact wp_tswI (o := 485) (t := 518) 8 dL_law_33 (by decide) (by decide) rfl rfl (a_word hs hi hL hI kk)
  | 9, _ => exact wp_tswI (o := 508) (t := 541) 9 dL_law_33 (by decide) (by decide) rfl rfl (a_unword hs hi hL hI kk)
  | 10, _ => exact wp_tswI (o := 521) (t := 554) 10 dL_law_33 (by decide) (by decide) rfl rfl (a_deal hs hi hL hI kk)
  | 11, _ => exact wp_tswI (o := 544) (t := 577) 11 dL_law_33 (by decide) (by decide) rfl rfl (a_seed hs hi hL hI kk)
  | 12, _ => exact wp_tswI (o := 567) (t := 600) 12 dL_law_33 (by decide) (by decide) rfl rfl (a_weeks hs hi hL hI kk)
  | 13, _ => exact wp_tswI (o := 590) (t := 623) 13 dL_law_33 (by decide) (by decide) rfl rfl (a_read hs hi hL hI kk)
  | 14, _ => exact wp_tswI (o := 613) (t := 646) 14 dL_law_33 (by decide) (by decide) rfl rfl (a_river hs hi hL hI kk)
  | 15, _ => exact wp_tswI (o := 636) (t := 669) 15 dL_law_33 (by decide) (by decide) rfl rfl (a_behind hs hi hL hI kk)
  | 16, _ => exact wp_tswI (o := 669) (t := 702) 16 dL_law_33 (by decide) (by decide) rfl rfl (a_whole hs hi hL hI kk)
  | 17, _ => exact wp_tswI (o := 682) (t := 715) 17 dL_law_33 (by decide) (by decide) rfl rfl (a_frees hs hi hL hI kk)
  | 18, _ => exact wp_tswI (o := 715) (t := 748) 18 dL_law_33 (by decide) (by decide) rfl rfl (a_lost hs hi hL hI kk)
  | 19, _ => exact wp_tswI (o := 738) (t := 771) 19 dL_law_33 (by decide) (by decide) rfl rfl (a_wider hs hi hL hI kk)
  | 20, _ => exact wp_tswI (o := 771) (t := 804) 20 dL_law_33 (by decide) (by decide) rfl rfl (a_opened hs hi hL hI kk)
  | 21, _ => exact wp_tswI (o := 794) (t := 827) 21 dL_law_33 (by decide) (by decide) rfl rfl (a_rolled hs hi hL hI kk)
  | 22, _ => exact wp_tswI (o := 827) (t := 860) 22 dL_law_33 (by decide) (by decide) rfl rfl (a_looked hs hi hL hI kk)
  | 23, _ => exact wp_tswI (o := 870) (t := 903) 23 dL_law_33 (by decide) (by decide) rfl rfl (a_fee hs hi hL hI kk)
  | 24, _ => exact wp_tswI (o := 883) (t := 916) 24 dL_law_33 (by decide) (by decide) rfl rfl (a_fine hs hi hL hI kk)
  | 25, _ => exact wp_tswI (o := 906) (t := 939) 25 dL_law_33 (by decide) (by decide) rfl rfl (a_feed hs hi hL hI kk)
  | 26, _ => exact wp_tswI (o := 949) (t := 982) 26 dL_law_33 (by decide) (by decide) rfl rfl (a_trim hs hi hL hI kk)
  | 27, _ => exact wp_tswI (o := 972) (t := 1005) 27 dL_law_33 (by decide) (by decide) rfl rfl (a_text hs hi hL hI kk)
  | 28, _ => exact wp_tswI (o := 985) (t := 1018) 28 dL_law_33 (by decide) (by decide) rfl rfl (a_textTold hs hi hL hI kk)
  | 29, _ => exact wp_tswI (o := 1018) (t := 1051) 29 dL_law_33 (by decide) (by decide) rfl rfl (a_why hs hi hL hI kk)
  | 30, _ => exact wp_tswI (o := 1041) (t := 1074) 30 dL_law_33 (by decide) (by decide) rfl rfl (a_sheet hs hi hL hI kk)
  | 31, _ => exact wp_tswI (o := 1084) (t := 1117) 31 dL_law_33 (by decide) (by decide) rfl rfl (a_mark hs hi hL hI kk)
  | 32, _ => exact wp_tswI (o := 1127) (t := 1160) 32 dL_law_33 (by decide) (by decide) rfl rfl (a_pour hs hi hL hI kk)
  | 33, _ => exact wp_tswI (o := 1150) (t := 1183) 33 dL_law_33 (by decide) (by decide) rfl rfl (a_reads hs hi hL hI kk)
  | 34, _ => exact wp_tswI (o := 1173) (t := 1206) 34 dL_law_33 (by decide) (by decide) rfl rfl (a_copy hs hi hL hI kk)
  | 35, _ => exact wp_tswI (o := 1236) (t := 1269) 35 dL_law_33 (by decide) (by decide) rfl rfl (a_lay hs hi hL hI kk)
  | 36, _ => exact wp_tswI (o := 1279) (t := 1312) 36 dL_law_33 (by decide) (by decide) rfl rfl (a_ask hs hi hL hI kk)
  | 37, _ => exact wp_tswI (o := 1312) (t := 1345) 37 dL_law_33 (by decide) (by decide) rfl rfl (a_item hs hi hL hI kk)
  | 38, _ => exact wp_tswI (o := 1345) (t := 1378) 38 dL_law_33 (by decide) (by decide) rfl rfl (a_rest hs hi hL hI kk)
  | 39, _ => exact wp_tswI (o := 1378) (t := 1411) 39 dL_law_33 (by decide) (by decide) rfl rfl (a_tell hs hi hL hI kk)
  | 40, _ => exact wp_tswI (o := 1401) (t := 1434) 40 dL_law_33 (by decide) (by decide) rfl rfl (a_check hs hi hL hI kk)
  | 41, _ => exact wp_tswI (o := 1424) (t := 1457) 41 dL_law_33 (by decide) (by decide) rfl rfl (a_keep hs hi hL hI kk)
  | 42, _ => exact wp_tswI (o := 1437) (t := 1470) 42 dL_law_33 (by decide) (by decide) rfl rfl (a_back hs hi hL hI kk)
  | 43, _ => exact wp_tswI (o := 1450) (t := 1483) 43 dL_law_33 (by decide) (by decide) rfl rfl (a_count hs hi hL hI kk)
  | j + 44, hj => exact wp_tswO (t := 1506) dL_law_33 (Or.inr (by rw [nI_toInt (by omega)]; omega)) rfl (kk s hI Ku.rf)
theorem l_loop {d L : Nat} (hL : L ≤ 3072) : ∀ (m i : Nat) (s : Sn), L - i ≤ m → i ≤ 3072 → INV s → s.2.2.1.1 = L → s.2.2.2.1 ≤ i → s.2.2.2.2 ≤ 270000 + 196 * i → Wp (d + 9) ML_law 18 [some (vR 0 0 0), some (vR 10 0 0), some (vR 40 0 0), some (vI (nI i))] [] (hN s) (fun v σ => v = some (vI 1) ∧ σ.2.2.1 ≤ 600000 ∧ σ.2.2.2 ≤ 7302250) := by
  intro m
  induction m with
  | zero =>
    intro i s hm hi hI hs h1 h2
    refine wp_iload_n dL_law_18 rfl rfl ?_
    refine wp_aload_n dL_law_19 rfl rfl ?_
    refine wx_alen (n := L) dL_law_20 rfl rfl hs rfl ?_
    refine wp_bipush (v := 6) dL_law_21 (by decide) rfl ?_
    refine wp_isub dL_law_23 rfl ?_
    refine wp_icmp_gt (t := 1512) dL_law_24 rfl rfl (fun _ => ?_) (fun hn => absurd ((lt_six hL (by omega)).mpr (by omega)) hn)
    refine wp_iconst (v := 1) dL_law_1512 (by decide) rfl ?_
    refine wp_iret dL_law_1513 rfl (by decide) ?_
    exact ⟨rfl, by show 135 + 3 * s.2.2.2.1 ≤ 600000; omega, by show s.2.2.2.2 ≤ 7302250; omega⟩
  | succ m ih =>
    intro i s hm hi hI hs h1 h2
    refine wp_iload_n dL_law_18 rfl rfl ?_
    refine wp_aload_n dL_law_19 rfl rfl ?_
    refine wx_alen (n := L) dL_law_20 rfl rfl hs rfl ?_
    refine wp_bipush (v := 6) dL_law_21 (by decide) rfl ?_
    refine wp_isub dL_law_23 rfl ?_
    refine wp_icmp_gt (t := 1512) dL_law_24 rfl rfl (fun _ => ?_) (fun hn => ?_)
    · refine wp_iconst (v := 1) dL_law_1512 (by decide) rfl ?_
      refine wp_iret dL_law_1513 rfl (by decide) ?_
      exact ⟨rfl, by show 135 + 3 * s.2.2.2.1 ≤ 600000; omega, by show s.2.2.2.2 ≤ 7302250; omega⟩
    · have hi6 : i + 6 ≤ L := by
        have := mt (lt_six hL (by omega)).mpr hn
        omega
      refine wp_aload_n dL_law_27 rfl rfl ?_
      refine wp_iload_n dL_law_28 rfl rfl ?_
      refine wx_iald dL_law_29 rfl rfl (nIx rfl (by omega)) (by show i < s.2.2.1.1; omega) rfl ?_
      refine wp_bipush (v := 63) dL_law_30 (by decide) rfl ?_
      refine wp_iand dL_law_32 rfl ?_
      obtain ⟨b, hb, eb⟩ := b64 (s.1 (0, 0, 0) i)
      rw [eb]
      refine l_sw hb hs hi6 hL hI (fun u hI2 hK => ?_)
      refine wp_iinc (l' := [_, _, _, some _]) (v := 6) dL_law_1506 rfl (by decide) rfl rfl ?_
      refine wp_goto (t := 18) dL_law_1509 rfl ?_
      rw [ixs6]
      obtain ⟨k0, k1, k2, k3⟩ := hK
      exact ih (i + 6) u (by omega) (by omega) hI2 (k1.trans hs) (by omega) (by omega)
