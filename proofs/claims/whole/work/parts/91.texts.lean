/-! THE PURE PART, 72: the texts that the class holds -/
section
variable {d u : Nat}
theorem ox3 (hu : u < 6) : okx (3, u, 0) = true := decide_eq_true (Or.inr (Or.inr ⟨rfl, hu, rfl⟩))
theorem rcv_st {s : Sn} (hu : u < 6) : rcv (hN s) (2, u, 0) RJ0 = true := by
  unfold rcv
  rw [show oks (2, u, 0) = true from decide_eq_true ⟨rfl, hu, rfl⟩]
  first | rfl | simp
theorem gx0 {s : Sn} (h : s.1 (2, u, 0) 0 = 0) : hp (nm s) (2, u, 0) 0 = vI 0 := by
  rw [hp_I rfl]; exact congrArg vI h
theorem gx1 {s : Sn} : hp (nm s) (2, u, 0) 1 = vR 3 u 0 := by
  rw [hp_R rfl]; rfl
/-- a text's coder, its letters -/
def SB (s : Sn) (u : Nat) (g : Fl) : Prop := s.1 (2, u, 0) 0 = 0 ∧ ∀ k, k < slen.getD u 0 → s.1 (3, u, 0) k = g k
theorem cJ_coder {s : Sn} (hu : u < 6) (h : s.1 (2, u, 0) 0 = 0) : Ca d MJ0_coder_7d493 [vR 2 u 0] (hN s) (Pd 0 s) := by
  change Wp _ _ 0 [some _] [] _ _
  refine wp_gets dJ0_coder_7d493_0 sRJ0_38 rfl ?_
  refine wp_if_eq (t := 13) dJ0_coder_7d493_3 rfl rfl (fun h3 => absurd h3 (by decide)) (fun h3 => ?_)
  refine wp_aload_n dJ0_coder_7d493_6 rfl rfl ?_
  refine wp_getX dJ0_coder_7d493_7 fRJ0_15 hu rfl ?_
  rw [gx0 h]
  refine wp_goto (t := 14) dJ0_coder_7d493_10 rfl ?_
  refine wp_iret dJ0_coder_7d493_14 rfl rfl ?_
  exact Pd.mk
theorem cJ_isLatin1 {s : Sn} (hu : u < 6) (h : s.1 (2, u, 0) 0 = 0) : Ca d MJ0_isLatin1_aae02 [vR 2 u 0] (hN s) (Pd 1 s) := by
  change Wp _ _ 0 [some _] [] _ _
  refine wp_gets dJ0_isLatin1_aae02_0 sRJ0_38 rfl ?_
  refine wp_if_eq (t := 17) dJ0_isLatin1_aae02_3 rfl rfl (fun h3 => absurd h3 (by decide)) (fun h3 => ?_)
  refine wp_aload_n dJ0_isLatin1_aae02_6 rfl rfl ?_
  refine wp_getX dJ0_isLatin1_aae02_7 fRJ0_15 hu rfl ?_
  rw [gx0 h]
  refine wp_if_ne (t := 17) dJ0_isLatin1_aae02_10 rfl rfl (fun h10 => absurd rfl h10) (fun h10 => ?_)
  refine wp_iconst (v := 1) dJ0_isLatin1_aae02_13 (by decide) rfl ?_
  refine wp_goto (t := 18) dJ0_isLatin1_aae02_14 rfl ?_
  refine wp_iret dJ0_isLatin1_aae02_18 rfl (by decide) ?_
  exact Pd.mk
theorem shr0 (x : Int32) : x >>> ((0 : Int32) &&& 31) = x := by
  apply Int32.toBitVec_inj.mp
  exact BitVec.sshiftRight_zero
theorem cJ_length {s : Sn} (hu : u < 6) (h : s.1 (2, u, 0) 0 = 0) : Ca (d + 1) MJ0_length_8abf5 [vR 2 u 0] (hN s) (Pd (nI (slen.getD u 0)) s) := by
  change Wp _ _ 0 [some _] [] _ _
  refine wp_aload_n dJ0_length_8abf5_0 rfl rfl ?_
  refine wp_getX dJ0_length_8abf5_1 fRJ0_9 hu rfl ?_
  rw [gx1]
  refine wx_alen dJ0_length_8abf5_4 (ox3 hu) rfl rfl rfl ?_
  refine wp_aload_n dJ0_length_8abf5_5 rfl rfl ?_
  refine wn_callV0d dJ0_length_8abf5_6 rRJ0_335 (rcv_st hu) (Nat.le_of_ble_eq_true rfl)  (Nat.le_of_ble_eq_true rfl) rfl (cJ_coder hu h) ?_
  refine wp_ishr dJ0_length_8abf5_9 rfl ?_
  rw [shr0]
  refine wp_iret dJ0_length_8abf5_10 rfl rfl ?_
  exact Pd.mk
theorem cJ_check3 {s : Sn} {k n : Nat} (hk : k < n) (hn : n < 2 ^ 31) : Ca d MJ3_checkIndex_8e157 [vI (nI k), vI (nI n), vR 4 0 0] (hN s) (Pd (nI k) s) := by
  change Wp _ _ 0 [some _, some _, some _] [] _ _
  refine wp_iload_n dJ3_checkIndex_8e157_0 rfl rfl ?_
  refine wp_if_lt (t := 9) dJ3_checkIndex_8e157_1 rfl rfl (fun h1 => absurd h1 (nI_pos (by omega))) (fun h1 => ?_)
  refine wp_iload_n dJ3_checkIndex_8e157_4 rfl rfl ?_
  refine wp_iload_n dJ3_checkIndex_8e157_5 rfl rfl ?_
  refine wp_icmp_lt (t := 16) dJ3_checkIndex_8e157_6 rfl rfl (fun h6 => ?_) (fun h6 => absurd ((nI_ltI (by omega) hn).mpr hk) h6)
  refine wp_iload_n dJ3_checkIndex_8e157_16 rfl rfl ?_
  refine wp_iret dJ3_checkIndex_8e157_17 rfl rfl ?_
  exact Pd.mk
theorem cJ_check0 {s : Sn} {k n : Nat} (hk : k < n) (hn : n < 2 ^ 31) : Ca (d + 1) MJ0_checkIndex_df160 [vI (nI k), vI (nI n)] (hN s) (Pn fun t => t = s) := by
  change Wp _ _ 0 [some _, some _] [] _ _
  refine wp_iload_n dJ0_checkIndex_df160_0 rfl rfl ?_
  refine wp_iload_n dJ0_checkIndex_df160_1 rfl rfl ?_
  refine wp_gets dJ0_checkIndex_df160_2 sRJ0_1053 rfl ?_
  refine wn_callS3d dJ0_checkIndex_df160_5 rRJ0_1059 (Nat.le_of_ble_eq_true rfl) rfl rfl rfl (Nat.le_of_ble_eq_true rfl) rfl (cJ_check3 hk hn) ?_
  refine wp_pop dJ0_checkIndex_df160_8 rfl rfl ?_
  refine wp_ret dJ0_checkIndex_df160_9 rfl ?_
  exact ⟨_, rfl, rfl, rfl⟩
theorem chr_v : ∀ b, b < 128 → vp_nar .char ((nI b) &&& 255) = nI b ∧ ((nI b) &&& 255) = nI b := by decide +kernel
end
