/-! THE PURE PART, 73: the class's reader takes a key, a name -/
section
variable {d u : Nat}
theorem chr1 : ∀ b, b < 128 → ((nI b).toUInt32 % 65536).toInt32 = nI b := by decide +kernel
theorem chr2 : ∀ b, b < 128 → nI b &&& 255 = nI b := by decide +kernel
theorem chn {b : Nat} (hb : b < 128) : narrow .char (.int (nI b)) = .int (nI b) := congrArg Value.int (chr1 b hb)
theorem cJ_charAt1 {s : Sn} {k b : Nat} (hu : u < 6) (hk : k < slen.getD u 0) (hl : slen.getD u 0 < 2 ^ 31) (hb : b < 128) (e : s.1 (3, u, 0) k = nI b) : Ca (d + 2) MJ1_charAt_3b067 [vR 3 u 0, vI (nI k)] (hN s) (Pd (nI b) s) := by
  change Wp _ _ 0 [some _, some _] [] _ _
  refine wp_iload_n dJ1_charAt_3b067_0 rfl rfl ?_
  refine wp_aload_n dJ1_charAt_3b067_1 rfl rfl ?_
  refine wx_alen dJ1_charAt_3b067_2 (ox3 hu) rfl rfl rfl ?_
  refine wn_callS2n dJ1_charAt_3b067_3 rRJ1_9 (Nat.le_of_ble_eq_true rfl) rfl rfl (Nat.le_of_ble_eq_true rfl) rfl (cJ_check0 hk hl) (fun s3 hq3 => ?_)
  subst hq3
  refine wp_aload_n dJ1_charAt_3b067_6 rfl rfl ?_
  refine wp_iload_n dJ1_charAt_3b067_7 rfl rfl ?_
  refine wx_bald dJ1_charAt_3b067_8 (ox3 hu) rfl (nIx rfl (by omega)) hk rfl ?_
  rw [e]
  refine wp_sipush (v := 255) dJ1_charAt_3b067_9 (by decide) rfl ?_
  refine wp_iand dJ1_charAt_3b067_12 rfl ?_
  rw [chr2 b hb]
  refine wp_i2c dJ1_charAt_3b067_13 rfl ?_
  rw [chr1 b hb]
  refine wp_iret dJ1_charAt_3b067_14 rfl (chn hb) ?_
  exact Pd.mk
theorem cJ_charAt {s : Sn} {k b : Nat} (hu : u < 6) (h0 : s.1 (2, u, 0) 0 = 0) (hk : k < slen.getD u 0) (hl : slen.getD u 0 < 2 ^ 31) (hb : b < 128) (e : s.1 (3, u, 0) k = nI b) : Ca (d + 3) MJ0_charAt_5068e [vR 2 u 0, vI (nI k)] (hN s) (Pd (nI b) s) := by
  change Wp _ _ 0 [some _, some _] [] _ _
  refine wp_aload_n dJ0_charAt_5068e_0 rfl rfl ?_
  refine wn_callV0d dJ0_charAt_5068e_1 rRJ0_492 (rcv_st hu) (Nat.le_of_ble_eq_true rfl)  (Nat.le_of_ble_eq_true rfl) rfl (cJ_isLatin1 hu h0) ?_
  refine wp_if_eq (t := 16) dJ0_charAt_5068e_4 rfl rfl (fun h4 => absurd h4 (by decide)) (fun h4 => ?_)
  refine wp_aload_n dJ0_charAt_5068e_7 rfl rfl ?_
  refine wp_getX dJ0_charAt_5068e_8 fRJ0_9 hu rfl ?_
  rw [gx1]
  refine wp_iload_n dJ0_charAt_5068e_11 rfl rfl ?_
  refine wn_callS2d dJ0_charAt_5068e_12 rRJ0_495 (Nat.le_of_ble_eq_true rfl) rfl rfl (Nat.le_of_ble_eq_true rfl) rfl (cJ_charAt1 hu hk hl hb e) ?_
  refine wp_iret dJ0_charAt_5068e_15 rfl (chn hb) ?_
  exact Pd.mk
theorem l2_word {s : Sn} {tp g : Fl} {n f e : Nat} (hn : n ≤ 96) (hT : TP s tp n) (hQ : TQ tp) (e12 : s.1 (20, 0, 0) 12 = nI f) (e13 : s.1 (20, 0, 0) 13 = nI e) (hfe : f ≤ e) (hen : e ≤ n) (hu : u < 6) (hB : SB s u g) (hg : ∀ k, k < slen.getD u 0 → ∃ b, b < 128 ∧ g k = nI b) (hl : slen.getD u 0 < 97) (hlen : e - f = slen.getD u 0) : ∀ k, k ≤ slen.getD u 0 → (∀ q, q < k → tp (f + q) = g q) → Wp (d + 4) MX2_isWord 20 [some (vR 20 0 0), some (vR 2 u 0), some (vI (nI k))] [] (hN s) (Pd (bI (e - f = slen.getD u 0 ∧ ∀ k, k < slen.getD u 0 → tp (f + k) = g k)) s) := by
  refine ind_up (fun k hk ih => ?_)
  intro hq
  refine wp_iload_n dX2_isWord_20 rfl rfl ?_
  refine wp_aload_n dX2_isWord_21 rfl rfl ?_
  refine wn_callV0d dX2_isWord_22 rRX2_109 (rcv_st hu) (Nat.le_of_ble_eq_true rfl)  (Nat.le_of_ble_eq_true rfl) rfl (cJ_length hu hB.1) ?_
  refine wp_icmp_ge (t := 57) dX2_isWord_25 rfl rfl (fun h25 => ?_) (fun h25 => ?_)
  · refine wp_iconst (v := 1) dX2_isWord_57 (by decide) rfl ?_
    refine wp_iret dX2_isWord_58 rfl (by decide) ?_
    have hk2 : k = slen.getD u 0 := by have := (nI_leI (by omega) (by omega)).mp h25; omega
    exact ⟨_, _, rfl, rfl, (bI_t ⟨hlen, hk2 ▸ hq⟩).symm, rfl⟩
  · have hl2 : k < slen.getD u 0 := by have := mt (nI_leI (by omega) (by omega)).mpr h25; omega
    obtain ⟨b, hb, eb⟩ := hg k hl2
    refine wp_aload_n dX2_isWord_28 rfl rfl ?_
    refine wn_getR dX2_isWord_29 fRX2_12 o20 rfl rfl rfl ?_
    refine wp_aload_n dX2_isWord_32 rfl rfl ?_
    refine wn_getI dX2_isWord_33 fRX2_54 o20 rfl rfl ?_
    refine wp_iload_n dX2_isWord_36 rfl rfl ?_
    refine wp_iadd dX2_isWord_37 rfl ?_
    rw [e12, nI_add]
    refine wn_callV1d dX2_isWord_38 rRX2_88 (rcv_of o21 rfl) (Nat.le_of_ble_eq_true rfl) rfl (Nat.le_of_ble_eq_true rfl) rfl (c6_byteAt hn (by omega) hT) ?_
    refine wp_aload_n dX2_isWord_41 rfl rfl ?_
    refine wp_iload_n dX2_isWord_42 rfl rfl ?_
    refine wn_callV1d dX2_isWord_43 rRX2_115 (rcv_st hu) (Nat.le_of_ble_eq_true rfl) rfl (Nat.le_of_ble_eq_true rfl) rfl (cJ_charAt hu hB.1 hl2 (by omega) hb ((hB.2 k hl2).trans eb)) ?_
    refine wp_icmp_eq (t := 51) dX2_isWord_46 rfl rfl (fun h46 => ?_) (fun h46 => ?_)
    · refine wp_iinc (l' := [_, _, some _]) (v := 1) dX2_isWord_51 rfl (by decide) rfl rfl ?_
      refine wp_goto (t := 20) dX2_isWord_54 rfl ?_
      rw [nI_1]
      refine ih hl2 (fun q hq2 => ?_)
      by_cases eq : q = k
      · rw [eq, eb]; exact (btC hn hQ (by omega) (by omega)).mp h46
      · exact hq q (by omega)
    · refine wp_iconst (v := 0) dX2_isWord_49 (by decide) rfl ?_
      refine wp_iret dX2_isWord_50 rfl (by decide) ?_
      refine ⟨_, _, rfl, rfl, (bI_f (fun z => h46 ?_)).symm, rfl⟩
      exact (btC hn hQ (by omega) (by omega)).mpr ((z.2 k hl2).trans eb)
theorem c2_isWord {s : Sn} {tp g : Fl} {n f e : Nat} (hn : n ≤ 96) (hT : TP s tp n) (hQ : TQ tp) (e12 : s.1 (20, 0, 0) 12 = nI f) (e13 : s.1 (20, 0, 0) 13 = nI e) (hfe : f ≤ e) (hen : e ≤ n) (hu : u < 6) (hB : SB s u g) (hg : ∀ k, k < slen.getD u 0 → ∃ b, b < 128 ∧ g k = nI b) (hl : slen.getD u 0 < 97) : Ca (d + 4) MX2_isWord [vR 20 0 0, vR 2 u 0] (hN s) (Pd (bI (e - f = slen.getD u 0 ∧ ∀ k, k < slen.getD u 0 → tp (f + k) = g k)) s) := by
  change Wp _ _ 0 [some _, some _, none] [] _ _
  refine wp_aload_n dX2_isWord_0 rfl rfl ?_
  refine wn_getI dX2_isWord_1 fRX2_57 o20 rfl rfl ?_
  rw [e13]
  refine wp_aload_n dX2_isWord_4 rfl rfl ?_
  refine wn_getI dX2_isWord_5 fRX2_54 o20 rfl rfl ?_
  refine wp_isub dX2_isWord_8 rfl ?_
  rw [e12, nI_subn hfe]
  refine wp_aload_n dX2_isWord_9 rfl rfl ?_
  refine wn_callV0d dX2_isWord_10 rRX2_109 (rcv_st hu) (Nat.le_of_ble_eq_true rfl)  (Nat.le_of_ble_eq_true rfl) rfl (cJ_length hu hB.1) ?_
  refine wp_icmp_eq (t := 18) dX2_isWord_13 rfl rfl (fun h13 => ?_) (fun h13 => ?_)
  · refine wp_iconst (v := 0) dX2_isWord_18 (by decide) rfl ?_
    refine wp_istore_n (l' := [_, _, some _]) dX2_isWord_19 rfl rfl ?_
    have hlen : e - f = slen.getD u 0 := (nI_eq (by omega) (by omega)).mp h13
    exact l2_word hn hT hQ e12 e13 hfe hen hu hB hg hl hlen 0 (Nat.zero_le _) (fun q hq => absurd hq (Nat.not_lt_zero q))
  · refine wp_iconst (v := 0) dX2_isWord_16 (by decide) rfl ?_
    refine wp_iret dX2_isWord_17 rfl (by decide) ?_
    exact ⟨_, _, rfl, rfl, (bI_f (fun z => h13 (by rw [z.1]))).symm, rfl⟩
theorem slT : slen.getD 0 0 = 5 ∧ slen.getD 1 0 = 3 ∧ slen.getD 2 0 = 4 ∧ slen.getD 3 0 = 3 ∧ slen.getD 4 0 = 2 ∧ slen.getD 5 0 = 2 := by decide +kernel
def nm3 : Fl := fun k => [102, 109, 114].getD k 0
def nm4 : Fl := fun k => [115, 119].getD k 0
def nm5 : Fl := fun k => [108, 109].getD k 0
/-- the texts that the reader asks -/
def TT (s : Sn) : Prop := SB s 0 (fun k => kc (0 + k)) ∧ SB s 1 (fun k => kc (5 + k)) ∧ SB s 2 (fun k => kc (8 + k)) ∧ SB s 3 nm3 ∧ SB s 4 nm4 ∧ SB s 5 nm5
theorem kc_b : ∀ k, k < 12 → ∃ b, b < 128 ∧ kc k = nI b := fun k hk => by
  have h : (List.range 12).all (fun k => decide (kc k = nI ([100, 114, 105, 102, 116, 102, 101, 101, 102, 105, 110, 101].getD k 0) ∧ [100, 114, 105, 102, 116, 102, 101, 101, 102, 105, 110, 101].getD k 0 < 128)) = true := by decide +kernel
  have := of_decide_eq_true (List.all_eq_true.mp h k (List.mem_range.mpr hk))
  exact ⟨_, this.2, this.1⟩
theorem c2_takesKey {s : Sn} {tp : Fl} {n f e : Nat} (hn : n ≤ 96) (hT : TP s tp n) (hQ : TQ tp) (e12 : s.1 (20, 0, 0) 12 = nI f) (e13 : s.1 (20, 0, 0) 13 = nI e) (hfe : f ≤ e) (hen : e ≤ n) (hX : TT s) : Ca (d + 5) MX2_takesKey [vR 20 0 0] (hN s) (Pv fun y t => y = bI (kyE tp f e < 3) ∧ t = if kyE tp f e < 3 then sI s (20, 0, 0) 6 (nI (kyE tp f e)) else s) := by
  change Wp _ _ 0 [some _] [] _ _
  refine wp_aload_n dX2_takesKey_0 rfl rfl ?_
  refine wp_ldcS dX2_takesKey_1 kRX2_99 rfl ?_
  refine wn_callV1d dX2_takesKey_3 rRX2_101 (rcv_of o20 rfl) (Nat.le_of_ble_eq_true rfl) rfl (Nat.le_of_ble_eq_true rfl) rfl (c2_isWord (u := 0) (g := fun k => kc (0 + k)) hn hT hQ e12 e13 hfe hen (by decide) hX.1 (fun k hk => kc_b _ (by have h5 : k < slen.getD 0 0 := hk; rw [show slen.getD 0 0 = 5 from slT.1] at h5; omega)) (by rw [show slen.getD 0 0 = 5 from slT.1]; decide)) ?_
  rw [show slen.getD 0 0 = 5 from slT.1]
  refine wp_if_eq_b (t := 17) dX2_takesKey_6 rfl rfl (fun h6 => ?_) (fun h6 => ?_)
  · refine wp_aload_n dX2_takesKey_17 rfl rfl ?_
    refine wp_ldcS dX2_takesKey_18 kRX2_105 rfl ?_
    refine wn_callV1d dX2_takesKey_20 rRX2_101 (rcv_of o20 rfl) (Nat.le_of_ble_eq_true rfl) rfl (Nat.le_of_ble_eq_true rfl) rfl (c2_isWord (u := 1) (g := fun k => kc (5 + k)) hn hT hQ e12 e13 hfe hen (by decide) hX.2.1 (fun k hk => kc_b _ (by have h5 : k < slen.getD 1 0 := hk; rw [show slen.getD 1 0 = 3 from slT.2.1] at h5; omega)) (by rw [show slen.getD 1 0 = 3 from slT.2.1]; decide)) ?_
    rw [show slen.getD 1 0 = 3 from slT.2.1]
    refine wp_if_eq_b (t := 34) dX2_takesKey_23 rfl rfl (fun h23 => ?_) (fun h23 => ?_)
    · refine wp_aload_n dX2_takesKey_34 rfl rfl ?_
      refine wp_ldcS dX2_takesKey_35 kRX2_107 rfl ?_
      refine wn_callV1d dX2_takesKey_37 rRX2_101 (rcv_of o20 rfl) (Nat.le_of_ble_eq_true rfl) rfl (Nat.le_of_ble_eq_true rfl) rfl (c2_isWord (u := 2) (g := fun k => kc (8 + k)) hn hT hQ e12 e13 hfe hen (by decide) hX.2.2.1 (fun k hk => kc_b _ (by have h5 : k < slen.getD 2 0 := hk; rw [show slen.getD 2 0 = 4 from slT.2.2.1] at h5; omega)) (by rw [show slen.getD 2 0 = 4 from slT.2.2.1]; decide)) ?_
      rw [show slen.getD 2 0 = 4 from slT.2.2.1]
      refine wp_if_eq_b (t := 51) dX2_takesKey_40 rfl rfl (fun h40 => ?_) (fun h40 => ?_)
      · refine wp_iconst (v := 0) dX2_takesKey_51 (by decide) rfl ?_
        refine wp_iret dX2_takesKey_52 rfl (by decide) ?_
        have hE : kyE tp f e = 3 := by unfold kyE; rw [if_neg h6, if_neg h23, if_neg h40]
        refine ⟨_, _, rfl, rfl, ?_, ?_⟩
        · rw [hE]; rfl
        · rw [hE]; rfl
      · refine wp_aload_n dX2_takesKey_43 rfl rfl ?_
        refine wp_iconst (v := 2) dX2_takesKey_44 (by decide) rfl ?_
        refine wn_putI dX2_takesKey_45 fRX2_35 o20 rfl rfl rfl ?_
        refine wp_goto (t := 53) dX2_takesKey_48 rfl ?_
        refine wp_iconst (v := 1) dX2_takesKey_53 (by decide) rfl ?_
        refine wp_iret dX2_takesKey_54 rfl (by decide) ?_
        have hE : kyE tp f e = 2 := by unfold kyE; rw [if_neg h6, if_neg h23, if_pos h40]
        refine ⟨_, _, rfl, rfl, ?_, ?_⟩
        · rw [hE]; rfl
        · rw [hE]; rfl
    · refine wp_aload_n dX2_takesKey_26 rfl rfl ?_
      refine wp_iconst (v := 1) dX2_takesKey_27 (by decide) rfl ?_
      refine wn_putI dX2_takesKey_28 fRX2_35 o20 rfl rfl rfl ?_
      refine wp_goto (t := 53) dX2_takesKey_31 rfl ?_
      refine wp_iconst (v := 1) dX2_takesKey_53 (by decide) rfl ?_
      refine wp_iret dX2_takesKey_54 rfl (by decide) ?_
      have hE : kyE tp f e = 1 := by unfold kyE; rw [if_neg h6, if_pos h23]
      refine ⟨_, _, rfl, rfl, ?_, ?_⟩
      · rw [hE]; rfl
      · rw [hE]; rfl
  · refine wp_aload_n dX2_takesKey_9 rfl rfl ?_
    refine wp_iconst (v := 0) dX2_takesKey_10 (by decide) rfl ?_
    refine wn_putI dX2_takesKey_11 fRX2_35 o20 rfl rfl rfl ?_
    refine wp_goto (t := 53) dX2_takesKey_14 rfl ?_
    refine wp_iconst (v := 1) dX2_takesKey_53 (by decide) rfl ?_
    refine wp_iret dX2_takesKey_54 rfl (by decide) ?_
    have hE : kyE tp f e = 0 := by unfold kyE; rw [if_pos h6]
    refine ⟨_, _, rfl, rfl, ?_, ?_⟩
    · rw [hE]; rfl
    · rw [hE]; rfl
def ixf (p : Nat → Bool) : Nat → Nat → Int32
  | 0, _ => -1
  | m + 1, k => if p k = true then nI k else ixf p m (k + 1)
theorem i2b1 : ∀ b, b < 128 → (nI b).toInt8.toInt32 = nI b := by decide +kernel
theorem cJ_canEncode {s : Sn} {b : Nat} (hb : b < 128) : Ca d MJ1_canEncode_9a6ad [vI (nI b)] (hN s) (Pd 1 s) := by
  change Wp _ _ 0 [some _] [] _ _
  refine wp_iload_n dJ1_canEncode_9a6ad_0 rfl rfl ?_
  refine wp_if_lt (t := 15) dJ1_canEncode_9a6ad_1 rfl rfl (fun h1 => absurd h1 (nI_pos (by omega))) (fun h1 => ?_)
  refine wp_iload_n dJ1_canEncode_9a6ad_4 rfl rfl ?_
  refine wp_sipush (v := 255) dJ1_canEncode_9a6ad_5 (by decide) rfl ?_
  refine wp_icmp_gt (t := 15) dJ1_canEncode_9a6ad_8 rfl rfl (fun h8 => absurd ((nI_ltI (a := 255) (by decide) (by omega)).mp h8) (by omega)) (fun h8 => ?_)
  refine wp_iconst (v := 1) dJ1_canEncode_9a6ad_11 (by decide) rfl ?_
  refine wp_goto (t := 16) dJ1_canEncode_9a6ad_12 rfl ?_
  refine wp_iret dJ1_canEncode_9a6ad_16 rfl (by decide) ?_
  exact Pd.mk
theorem lJ_ix {s : Sn} {g : Fl} {b : Nat} (hu : u < 6) (hg : ∀ k, k < slen.getD u 0 → s.1 (3, u, 0) k = g k) (hl : slen.getD u 0 < 97) (hb : b < 128) : ∀ k, k ≤ slen.getD u 0 → Wp d MJ1_indexOfChar_4cfef 7 [some (vR 3 u 0), some (vI (nI b)), some (vI 0), some (vI (nI (slen.getD u 0))), some (vI (nI b)), some (vI (nI k))] [] (hN s) (Pd (ixf (fun k => decide (g k = nI b)) (slen.getD u 0 - k) k) s) := by
  refine ind_up (fun k hk ih => ?_)
  refine wp_iload dJ1_indexOfChar_4cfef_7 rfl rfl ?_
  refine wp_iload_n dJ1_indexOfChar_4cfef_9 rfl rfl ?_
  refine wp_icmp_ge (t := 31) dJ1_indexOfChar_4cfef_10 rfl rfl (fun h10 => ?_) (fun h10 => ?_)
  · refine wp_iconst (v := (-1)) dJ1_indexOfChar_4cfef_31 (by decide) rfl ?_
    refine wp_iret dJ1_indexOfChar_4cfef_32 rfl rfl ?_
    have hk2 : k = slen.getD u 0 := by have := (nI_leI (by omega) (by omega)).mp h10; omega
    rw [hk2, Nat.sub_self]
    exact Pd.mk
  · have hl2 : k < slen.getD u 0 := by have := mt (nI_leI (by omega) (by omega)).mpr h10; omega
    refine wp_aload_n dJ1_indexOfChar_4cfef_13 rfl rfl ?_
    refine wp_iload dJ1_indexOfChar_4cfef_14 rfl rfl ?_
    refine wx_bald dJ1_indexOfChar_4cfef_16 (ox3 hu) rfl (nIx rfl (by omega)) hl2 rfl ?_
    rw [hg k hl2]
    refine wp_iload dJ1_indexOfChar_4cfef_17 rfl rfl ?_
    refine wp_icmp_ne (t := 25) dJ1_indexOfChar_4cfef_19 rfl rfl (fun h19 => ?_) (fun h19 => ?_)
    · refine wp_iinc (l' := [_, _, _, _, _, some _]) (v := 1) dJ1_indexOfChar_4cfef_25 rfl (by decide) rfl rfl ?_
      refine wp_goto (t := 7) dJ1_indexOfChar_4cfef_28 rfl ?_
      rw [show slen.getD u 0 - k = (slen.getD u 0 - (k + 1)) + 1 by omega, ixf, if_neg (fun z => h19 (of_decide_eq_true z))]
      rw [nI_1]
      exact ih hl2
    · refine wp_iload dJ1_indexOfChar_4cfef_22 rfl rfl ?_
      refine wp_iret dJ1_indexOfChar_4cfef_24 rfl rfl ?_
      rw [show slen.getD u 0 - k = (slen.getD u 0 - (k + 1)) + 1 by omega, ixf, if_pos (decide_eq_true h19)]
      exact Pd.mk
theorem cJ_ixChar {s : Sn} {g : Fl} {b : Nat} (hu : u < 6) (hB : SB s u g) (hl : slen.getD u 0 < 97) (hl0 : 0 < slen.getD u 0) (hb : b < 128) : Ca d MJ1_indexOfChar_4cfef [vR 3 u 0, vI (nI b), vI 0, vI (nI (slen.getD u 0))] (hN s) (Pd (ixf (fun k => decide (g k = nI b)) (slen.getD u 0) 0) s) := by
  change Wp _ _ 0 [some _, some _, some _, some _, none, none] [] _ _
  refine wp_iload_n dJ1_indexOfChar_4cfef_0 rfl rfl ?_
  refine wp_i2b dJ1_indexOfChar_4cfef_1 rfl ?_
  rw [i2b1 b hb]
  refine wp_istore (l' := [_, _, _, _, some _, _]) dJ1_indexOfChar_4cfef_2 rfl rfl ?_
  refine wp_iload_n dJ1_indexOfChar_4cfef_4 rfl rfl ?_
  refine wp_istore (l' := [_, _, _, _, _, some _]) dJ1_indexOfChar_4cfef_5 rfl rfl ?_
  have h := lJ_ix (d := d) hu hB.2 hl hb 0 (Nat.zero_le _)
  rw [Nat.sub_zero] at h
  exact h
theorem cJ_ix1 {s : Sn} {g : Fl} {b : Nat} (hu : u < 6) (hB : SB s u g) (hl : slen.getD u 0 < 97) (hl0 : 0 < slen.getD u 0) (hb : b < 128) : Ca (d + 1) MJ1_indexOf_4cfef [vR 3 u 0, vI (nI b), vI 0, vI (nI (slen.getD u 0))] (hN s) (Pd (ixf (fun k => decide (g k = nI b)) (slen.getD u 0) 0) s) := by
  change Wp _ _ 0 [some _, some _, some _, some _] [] _ _
  refine wp_iload_n dJ1_indexOf_4cfef_0 rfl rfl ?_
  refine wn_callS1d dJ1_indexOf_4cfef_1 rRJ1_88 (Nat.le_of_ble_eq_true rfl) rfl (Nat.le_of_ble_eq_true rfl) rfl (cJ_canEncode hb) ?_
  refine wp_if_ne (t := 9) dJ1_indexOf_4cfef_4 rfl rfl (fun h4 => ?_) (fun h4 => absurd h4 (by decide))
  refine wp_iload_n dJ1_indexOf_4cfef_9 rfl rfl ?_
  refine wp_iconst (v := 0) dJ1_indexOf_4cfef_10 (by decide) rfl ?_
  refine wp_max dJ1_indexOf_4cfef_11 rRJ1_92 (by omega) (Nat.le_of_ble_eq_true rfl) rfl ?_
  rw [show (if (0 : Int32) < 0 then (0 : Int32) else 0) = 0 from by decide]
  refine wp_istore_n (l' := [_, _, some _, _]) dJ1_indexOf_4cfef_14 rfl rfl ?_
  refine wp_iload_n dJ1_indexOf_4cfef_15 rfl rfl ?_
  refine wp_aload_n dJ1_indexOf_4cfef_16 rfl rfl ?_
  refine wx_alen dJ1_indexOf_4cfef_17 (ox3 hu) rfl rfl rfl ?_
  refine wp_min dJ1_indexOf_4cfef_18 rRJ1_38 (by omega) (Nat.le_of_ble_eq_true rfl) rfl ?_
  rw [show lnf s.2.2.1 (3, u, 0) = slen.getD u 0 from rfl, ite_self]
  refine wp_istore_n (l' := [_, _, _, some _]) dJ1_indexOf_4cfef_21 rfl rfl ?_
  refine wp_iload_n dJ1_indexOf_4cfef_22 rfl rfl ?_
  refine wp_iload_n dJ1_indexOf_4cfef_23 rfl rfl ?_
  refine wp_icmp_lt (t := 29) dJ1_indexOf_4cfef_24 rfl rfl (fun h24 => ?_) (fun h24 => absurd ((nI_ltI (a := 0) (by decide) (by omega)).mpr hl0) h24)
  refine wp_aload_n dJ1_indexOf_4cfef_29 rfl rfl ?_
  refine wp_iload_n dJ1_indexOf_4cfef_30 rfl rfl ?_
  refine wp_iload_n dJ1_indexOf_4cfef_31 rfl rfl ?_
  refine wp_iload_n dJ1_indexOf_4cfef_32 rfl rfl ?_
  refine wn_callS4d dJ1_indexOf_4cfef_33 rRJ1_95 (Nat.le_of_ble_eq_true rfl) rfl rfl rfl rfl (Nat.le_of_ble_eq_true rfl) rfl (cJ_ixChar hu hB hl hl0 hb) ?_
  refine wp_iret dJ1_indexOf_4cfef_36 rfl rfl ?_
  exact Pd.mk
end
