/-! THE PURE PART, 34: a river's numbers, a word read -/
section
variable {d i : Nat}
def rvA (f : Fl) (n c : Nat) (x : Int32) : Int32 := if x = 0 then nI (spl f n c 26) else if x = 1 then jm f 12 else if x = 2 then f 6 else if x = 3 then nI (mny f 12) else if x = 4 then afl f c else -1000000001
def redA (f : Fl) (c : Nat) (x : Int32) : Int32 := if -1 ≤ x ∧ x ≤ 11 then (if x = -1 then nI (mny f 12) else rdl f x c) else -1000000001
theorem rvA_0 {f : Fl} {n c : Nat} : rvA f n c 0 = nI (spl f n c 26) := by
  unfold rvA
  rw [if_pos rfl]
theorem rvA_1 {f : Fl} {n c : Nat} : rvA f n c 1 = jm f 12 := by
  unfold rvA
  rw [if_neg (by decide), if_pos rfl]
theorem rvA_2 {f : Fl} {n c : Nat} : rvA f n c 2 = f 6 := by
  unfold rvA
  rw [if_neg (by decide), if_neg (by decide), if_pos rfl]
theorem rvA_3 {f : Fl} {n c : Nat} : rvA f n c 3 = nI (mny f 12) := by
  unfold rvA
  rw [if_neg (by decide), if_neg (by decide), if_neg (by decide), if_pos rfl]
theorem rvA_4 {f : Fl} {n c : Nat} : rvA f n c 4 = afl f c := by
  unfold rvA
  rw [if_neg (by decide), if_neg (by decide), if_neg (by decide), if_neg (by decide), if_pos rfl]
theorem rvA_5 {f : Fl} {n c : Nat} {x : Int32} (h0 : ¬ x = 0) (h1 : ¬ x = 1) (h2 : ¬ x = 2) (h3 : ¬ x = 3) (h4 : ¬ x = 4) : rvA f n c x = -1000000001 := by
  unfold rvA
  rw [if_neg h0, if_neg h1, if_neg h2, if_neg h3, if_neg h4]
theorem c8_river {s : Sn} {n c : Nat} {x : Int32} (hn : n ≤ 12) (h7 : s.1 (41, 0, 0) 7 = nI n) (hc : c ≤ 12) (h1 : s.1 (41, 0, 0) 1 = nI c) : Ca (d + 3) MX8_river [vR 40 0 0, vI x] (hN s) (Pd (rvA (s.1 (41, 0, 0)) n c x) s) := by
  change Wp _ _ 0 [some _, some _, none, none] [] _ _
  refine wp_iload_n dX8_river_0 rfl rfl ?_
  refine wp_tsw5 (c0 := 0) (c1 := 1) (c2 := 2) (c3 := 3) (c4 := 4) (t0 := 36) (t1 := 41) (t2 := 46) (t3 := 54) (t4 := 61) (t := 104) dX8_river_1 rfl (by decide) (by decide) (by decide) (by decide) (by decide) rfl rfl rfl rfl rfl rfl rfl rfl rfl rfl rfl (fun k1 => ?_) (fun k1 => ?_) (fun k1 => ?_) (fun k1 => ?_) (fun k1 => ?_) (fun n1_0 n1_1 n1_2 n1_3 n1_4 => ?_)
  · refine wp_aload_n dX8_river_36 rfl rfl ?_
    refine wn_callV0d dX8_river_37 rRX8_150 (rcv_of o40 rfl) (Nat.le_of_ble_eq_true rfl)  (Nat.le_of_ble_eq_true rfl) rfl (c8_spelt hn h7 hc h1) ?_
    refine wp_iret dX8_river_40 rfl rfl ?_
    rw [k1, rvA_0]
    exact Pd.mk
  · refine wp_aload_n dX8_river_41 rfl rfl ?_
    refine wn_callV0d dX8_river_42 rRX8_153 (rcv_of o40 rfl) (Nat.le_of_ble_eq_true rfl)  (Nat.le_of_ble_eq_true rfl) rfl (c8_jam hc h1) ?_
    refine wp_iret dX8_river_45 rfl rfl ?_
    rw [k1, rvA_1]
    exact Pd.mk
  · refine wp_aload_n dX8_river_46 rfl rfl ?_
    refine wn_getR dX8_river_47 fRX8_9 o40 rfl rfl rfl ?_
    refine wp_bipush (v := 6) dX8_river_50 (by decide) rfl ?_
    refine wn_iald (j := 6) dX8_river_52 (o41 0 rfl) rfl ⟨by decide, by decide⟩ (Nat.le_of_ble_eq_true rfl) rfl ?_
    refine wp_iret dX8_river_53 rfl rfl ?_
    rw [k1, rvA_2]
    exact Pd.mk
  · refine wp_aload_n dX8_river_54 rfl rfl ?_
    refine wp_bipush (v := 12) dX8_river_55 (by decide) rfl ?_
    refine wn_callV1d dX8_river_57 rRX8_133 (rcv_of o40 rfl) (Nat.le_of_ble_eq_true rfl) rfl (Nat.le_of_ble_eq_true rfl) rfl (c8_manyAt hc h1) ?_
    refine wp_iret dX8_river_60 rfl rfl ?_
    rw [k1, rvA_3]
    exact Pd.mk
  · refine wp_iconst (v := 0) dX8_river_61 (by decide) rfl ?_
    refine wp_istore_n (l' := [_, _, some _, _]) dX8_river_62 rfl rfl ?_
    refine wp_iconst (v := 0) dX8_river_63 (by decide) rfl ?_
    refine wp_istore_n (l' := [_, _, _, some _]) dX8_river_64 rfl rfl ?_
    rw [k1, rvA_4]
    exact l8_afl hc h1 0 (Nat.zero_le _)
  · refine wp_ldc dX8_river_104 kRX8_83 rfl ?_
    refine wp_iret dX8_river_106 rfl rfl ?_
    rw [rvA_5 n1_0 n1_1 n1_2 n1_3 n1_4]
    exact Pd.mk
theorem i1m {x : Int32} (h1 : -1 ≤ x) (h0 : x < 0) : x = -1 := by
  have a := Int32.le_iff_toInt_le.mp h1
  have b := Int32.lt_iff_toInt_lt.mp h0
  apply Int32.toInt_inj.mp
  have e1 : (-1 : Int32).toInt = -1 := by decide
  have e0 : (0 : Int32).toInt = 0 := by decide
  rw [e1] at a ⊢
  rw [e0] at b
  omega
theorem i1n {x : Int32} (h : x = -1) : ¬ 0 ≤ x := by rw [h]; decide
theorem i1p {x : Int32} (h1 : -1 ≤ x) (h : ¬ x = -1) : x + 1 ≠ 0 := by
  intro z
  apply h
  have : x + 1 + (-1) = 0 + (-1) := by rw [z]
  rw [Int32.add_assoc, show (1 : Int32) + (-1) = 0 from by decide, Int32.add_zero] at this
  rw [this]; decide
theorem c8_read {s : Sn} {c : Nat} {x : Int32} (hc : c ≤ 12) (h1 : s.1 (41, 0, 0) 1 = nI c) : Ca (d + 2) MX8_read [vR 40 0 0, vI x] (hN s) (Pd (redA (s.1 (41, 0, 0)) c x) s) := by
  change Wp _ _ 0 [some _, some _, none, none] [] _ _
  refine wp_iload_n dX8_read_0 rfl rfl ?_
  refine wp_iconst (v := (-1)) dX8_read_1 (by decide) rfl ?_
  refine wp_bipush (v := 11) dX8_read_2 (by decide) rfl ?_
  refine wn_callS3d dX8_read_4 rRX8_75 (Nat.le_of_ble_eq_true rfl) rfl rfl rfl (Nat.le_of_ble_eq_true rfl) rfl (c8_in) ?_
  refine wp_if_ne_b (t := 13) dX8_read_7 rfl rfl (fun h7 => ?_) (fun h7 => ?_)
  · refine wp_iload_n dX8_read_13 rfl rfl ?_
    refine wp_if_ge (t := 24) dX8_read_14 rfl rfl (fun h14 => ?_) (fun h14 => ?_)
    · refine wp_ldc dX8_read_24 kRX8_149 rfl ?_
      refine wp_istore_n (l' := [_, _, some _, _]) dX8_read_26 rfl rfl ?_
      refine wp_iconst (v := 0) dX8_read_27 (by decide) rfl ?_
      refine wp_istore_n (l' := [_, _, _, some _]) dX8_read_28 rfl rfl ?_
      rw [show redA (s.1 (41, 0, 0)) c x = rdl (s.1 (41, 0, 0)) x c from (if_pos h7).trans (if_neg (fun z => i1n z h14))]
      exact l8_rdl hc h1 0 (Nat.zero_le _)
    · refine wp_aload_n dX8_read_17 rfl rfl ?_
      refine wp_bipush (v := 12) dX8_read_18 (by decide) rfl ?_
      refine wn_callV1d dX8_read_20 rRX8_133 (rcv_of o40 rfl) (Nat.le_of_ble_eq_true rfl) rfl (Nat.le_of_ble_eq_true rfl) rfl (c8_manyAt hc h1) ?_
      refine wp_iret dX8_read_23 rfl rfl ?_
      have hx : x = -1 := i1m h7.1 (Int32.not_le.mp h14)
      rw [show redA (s.1 (41, 0, 0)) c x = nI (mny (s.1 (41, 0, 0)) 12) from (if_pos h7).trans (if_pos hx)]
      exact Pd.mk
  · refine wp_ldc dX8_read_10 kRX8_83 rfl ?_
    refine wp_iret dX8_read_12 rfl rfl ?_
    rw [show redA (s.1 (41, 0, 0)) c x = -1000000001 from if_neg h7]
    exact Pd.mk
theorem c7_read {s : Sn} {f : Fl} {c : Nat} {x : Int32} (hV : RV s 0 f c) (hU : UQ f c) : Ca (d + 1) MX7_read [vR 10 0 0, vI x] (hN s) (Pd (redA f c x) s) := by
  change Wp _ _ 0 [some _, some _] [] _ _
  refine wp_iload_n dX7_read_0 rfl rfl ?_
  refine wp_iconst (v := (-1)) dX7_read_1 (by decide) rfl ?_
  refine wp_bipush (v := 11) dX7_read_2 (by decide) rfl ?_
  refine wn_callS3d dX7_read_4 rRX7_128 (Nat.le_of_ble_eq_true rfl) rfl rfl rfl (Nat.le_of_ble_eq_true rfl) rfl (c7_within) ?_
  refine wp_if_ne_b (t := 13) dX7_read_7 rfl rfl (fun h7 => ?_) (fun h7 => ?_)
  · refine wp_iload_n dX7_read_13 rfl rfl ?_
    refine wp_iconst (v := (-1)) dX7_read_14 (by decide) rfl ?_
    refine wp_icmp_ne (t := 28) dX7_read_15 rfl rfl (fun h15 => ?_) (fun h15 => ?_)
    · refine wp_aload_n dX7_read_28 rfl rfl ?_
      refine wn_getR dX7_read_29 fRX7_10 o10 rfl rfl rfl ?_
      refine wp_iload_n dX7_read_32 rfl rfl ?_
      refine wn_callV1d dX7_read_33 rRX7_171 (rcv_of (o11 (by decide)) rfl) (Nat.le_of_ble_eq_true rfl) rfl (Nat.le_of_ble_eq_true rfl) rfl (c3_letterRead (by decide) hV.1 hV.2.2.1 hV.2.2.2 hU (i1p h7.1 h15)) ?_
      refine wp_iret dX7_read_36 rfl rfl ?_
      rw [show redA f c x = rdl f x c from (if_pos h7).trans (if_neg h15)]
      exact Pd.mk
    · refine wp_aload_n dX7_read_18 rfl rfl ?_
      refine wn_getR dX7_read_19 fRX7_10 o10 rfl rfl rfl ?_
      refine wn_getI dX7_read_22 fRX7_161 (o11 (by decide)) rfl rfl ?_
      rw [hV.2.1]
      refine wp_goto (t := 36) dX7_read_25 rfl ?_
      refine wp_iret dX7_read_36 rfl rfl ?_
      rw [show redA f c x = nI (mny f 12) from (if_pos h7).trans (if_pos h15)]
      exact Pd.mk
  · refine wp_ldc dX7_read_10 kRX7_68 rfl ?_
    refine wp_iret dX7_read_12 rfl rfl ?_
    rw [show redA f c x = -1000000001 from if_neg h7]
    exact Pd.mk
end
