/-! THE PURE PART, 5: small methods that only ask numbers -/
theorem bI_t {p : Prop} [Decidable p] (h : p) : bI p = 1 := by unfold bI; rw [if_pos h]
theorem bI_f {p : Prop} [Decidable p] (h : ¬ p) : bI p = 0 := by unfold bI; rw [if_neg h]
/-- held within bounds, as the reference does it -/
def wth (v a b : Int32) : Int32 := if v < a then a else if b < v then b else v
/-- held within bounds, as the class does it -/
def hld (v a b : Int32) : Int32 := if a < (if v < b then v else b) then (if v < b then v else b) else a
section
variable {d : Nat} {s : Sn}
theorem c7_within {v a b : Int32} : Ca (d) MX7_within [vI v, vI a, vI b] (hN s) (Pd (bI (a ≤ v ∧ v ≤ b)) s) := by
  change Wp _ _ 0 [some _, some _, some _] [] _ _
  refine wp_iload_n dX7_within_0 rfl rfl ?_
  refine wp_iload_n dX7_within_1 rfl rfl ?_
  refine wp_icmp_lt (t := 14) dX7_within_2 rfl rfl (fun h2 => ?_) (fun h2 => ?_)
  · refine wp_iconst (v := 0) dX7_within_14 (by decide) rfl ?_
    refine wp_iret dX7_within_15 rfl (by decide) ?_
    refine ⟨_, _, rfl, rfl, ?_, rfl⟩
    simp only [bI, Int32.lt_iff_toInt_lt, Int32.le_iff_toInt_le] at *
    split <;> first | rfl | omega
  · refine wp_iload_n dX7_within_5 rfl rfl ?_
    refine wp_iload_n dX7_within_6 rfl rfl ?_
    refine wp_icmp_gt (t := 14) dX7_within_7 rfl rfl (fun h7 => ?_) (fun h7 => ?_)
    · refine wp_iconst (v := 0) dX7_within_14 (by decide) rfl ?_
      refine wp_iret dX7_within_15 rfl (by decide) ?_
      refine ⟨_, _, rfl, rfl, ?_, rfl⟩
      simp only [bI, Int32.lt_iff_toInt_lt, Int32.le_iff_toInt_le] at *
      split <;> first | rfl | omega
    · refine wp_iconst (v := 1) dX7_within_10 (by decide) rfl ?_
      refine wp_goto (t := 15) dX7_within_11 rfl ?_
      refine wp_iret dX7_within_15 rfl (by decide) ?_
      refine ⟨_, _, rfl, rfl, ?_, rfl⟩
      simp only [bI, Int32.lt_iff_toInt_lt, Int32.le_iff_toInt_le] at *
      split <;> first | rfl | omega
theorem c7_isKind {v : Int32} : Ca (d + 1) MX7_isKind [vI v] (hN s) (Pd (bI (0 ≤ v ∧ v ≤ 5)) s) := by
  change Wp _ _ 0 [some _] [] _ _
  refine wp_iload_n dX7_isKind_0 rfl rfl ?_
  refine wp_iconst (v := 0) dX7_isKind_1 (by decide) rfl ?_
  refine wp_iconst (v := 5) dX7_isKind_2 (by decide) rfl ?_
  refine wn_callS3d dX7_isKind_3 rRX7_128 (Nat.le_of_ble_eq_true rfl) rfl rfl rfl (Nat.le_of_ble_eq_true rfl) rfl (c7_within) ?_
  refine wp_bret dX7_isKind_6 rfl ?_
  exact Pd.mk
theorem c7_isLetter {v : Int32} : Ca (d + 1) MX7_isLetter [vI v] (hN s) (Pd (bI (0 ≤ v ∧ v ≤ 25)) s) := by
  change Wp _ _ 0 [some _] [] _ _
  refine wp_iload_n dX7_isLetter_0 rfl rfl ?_
  refine wp_iconst (v := 0) dX7_isLetter_1 (by decide) rfl ?_
  refine wp_bipush (v := 25) dX7_isLetter_2 (by decide) rfl ?_
  refine wn_callS3d dX7_isLetter_4 rRX7_128 (Nat.le_of_ble_eq_true rfl) rfl rfl rfl (Nat.le_of_ble_eq_true rfl) rfl (c7_within) ?_
  refine wp_bret dX7_isLetter_7 rfl ?_
  exact Pd.mk
theorem c7_isMass {v : Int32} : Ca (d + 1) MX7_isMass [vI v] (hN s) (Pd (bI (1 ≤ v ∧ v ≤ 50)) s) := by
  change Wp _ _ 0 [some _] [] _ _
  refine wp_iload_n dX7_isMass_0 rfl rfl ?_
  refine wp_iconst (v := 1) dX7_isMass_1 (by decide) rfl ?_
  refine wp_bipush (v := 50) dX7_isMass_2 (by decide) rfl ?_
  refine wn_callS3d dX7_isMass_4 rRX7_128 (Nat.le_of_ble_eq_true rfl) rfl rfl rfl (Nat.le_of_ble_eq_true rfl) rfl (c7_within) ?_
  refine wp_bret dX7_isMass_7 rfl ?_
  exact Pd.mk
theorem c7_isSheet {v : Int32} : Ca (d + 1) MX7_isSheet [vI v] (hN s) (Pd (bI (0 ≤ v ∧ v ≤ 3)) s) := by
  change Wp _ _ 0 [some _] [] _ _
  refine wp_iload_n dX7_isSheet_0 rfl rfl ?_
  refine wp_iconst (v := 0) dX7_isSheet_1 (by decide) rfl ?_
  refine wp_iconst (v := 3) dX7_isSheet_2 (by decide) rfl ?_
  refine wn_callS3d dX7_isSheet_3 rRX7_128 (Nat.le_of_ble_eq_true rfl) rfl rfl rfl (Nat.le_of_ble_eq_true rfl) rfl (c7_within) ?_
  refine wp_bret dX7_isSheet_6 rfl ?_
  exact Pd.mk
theorem c7_isSlot {v : Int32} : Ca (d + 1) MX7_isSlot [vI v] (hN s) (Pd (bI (0 ≤ v ∧ v ≤ 4)) s) := by
  change Wp _ _ 0 [some _] [] _ _
  refine wp_iload_n dX7_isSlot_0 rfl rfl ?_
  refine wp_iconst (v := 0) dX7_isSlot_1 (by decide) rfl ?_
  refine wp_iconst (v := 4) dX7_isSlot_2 (by decide) rfl ?_
  refine wn_callS3d dX7_isSlot_3 rRX7_128 (Nat.le_of_ble_eq_true rfl) rfl rfl rfl (Nat.le_of_ble_eq_true rfl) rfl (c7_within) ?_
  refine wp_bret dX7_isSlot_6 rfl ?_
  exact Pd.mk
theorem c7_isReach {v : Int32} : Ca (d) MX7_isReach [vI v] (hN s) (Pd (bI (0 ≤ v ∧ v < 12)) s) := by
  change Wp _ _ 0 [some _] [] _ _
  refine wp_iload_n dX7_isReach_0 rfl rfl ?_
  refine wp_if_lt (t := 14) dX7_isReach_1 rfl rfl (fun h1 => ?_) (fun h1 => ?_)
  · refine wp_iconst (v := 0) dX7_isReach_14 (by decide) rfl ?_
    refine wp_iret dX7_isReach_15 rfl (by decide) ?_
    refine ⟨_, _, rfl, rfl, ?_, rfl⟩
    simp only [bI, Int32.lt_iff_toInt_lt, Int32.le_iff_toInt_le] at *
    split <;> first | rfl | omega
  · refine wp_iload_n dX7_isReach_4 rfl rfl ?_
    refine wp_bipush (v := 12) dX7_isReach_5 (by decide) rfl ?_
    refine wp_icmp_ge (t := 14) dX7_isReach_7 rfl rfl (fun h7 => ?_) (fun h7 => ?_)
    · refine wp_iconst (v := 0) dX7_isReach_14 (by decide) rfl ?_
      refine wp_iret dX7_isReach_15 rfl (by decide) ?_
      refine ⟨_, _, rfl, rfl, ?_, rfl⟩
      simp only [bI, Int32.lt_iff_toInt_lt, Int32.le_iff_toInt_le] at *
      split <;> first | rfl | omega
    · refine wp_iconst (v := 1) dX7_isReach_10 (by decide) rfl ?_
      refine wp_goto (t := 15) dX7_isReach_11 rfl ?_
      refine wp_iret dX7_isReach_15 rfl (by decide) ?_
      refine ⟨_, _, rfl, rfl, ?_, rfl⟩
      simp only [bI, Int32.lt_iff_toInt_lt, Int32.le_iff_toInt_le] at *
      split <;> first | rfl | omega
theorem c7_hold {v a b : Int32} : Ca (d + 1) MX7_hold [vI v, vI a, vI b] (hN s) (Pd (hld v a b) s) := by
  change Wp _ _ 0 [some _, some _, some _] [] _ _
  refine wp_iload_n dX7_hold_0 rfl rfl ?_
  refine wp_iload_n dX7_hold_1 rfl rfl ?_
  refine wp_iload_n dX7_hold_2 rfl rfl ?_
  refine wp_min dX7_hold_3 rRX7_149 (by omega) (Nat.le_of_ble_eq_true rfl) rfl ?_
  refine wp_max dX7_hold_6 rRX7_328 (by omega) (Nat.le_of_ble_eq_true rfl) rfl ?_
  refine wp_iret dX7_hold_9 rfl rfl ?_
  exact Pd.mk
theorem c8_in {v a b : Int32} : Ca (d) MX8_in [vI v, vI a, vI b] (hN s) (Pd (bI (a ≤ v ∧ v ≤ b)) s) := by
  change Wp _ _ 0 [some _, some _, some _] [] _ _
  refine wp_iload_n dX8_in_0 rfl rfl ?_
  refine wp_iload_n dX8_in_1 rfl rfl ?_
  refine wp_icmp_lt (t := 14) dX8_in_2 rfl rfl (fun h2 => ?_) (fun h2 => ?_)
  · refine wp_iconst (v := 0) dX8_in_14 (by decide) rfl ?_
    refine wp_iret dX8_in_15 rfl (by decide) ?_
    refine ⟨_, _, rfl, rfl, ?_, rfl⟩
    simp only [bI, Int32.lt_iff_toInt_lt, Int32.le_iff_toInt_le] at *
    split <;> first | rfl | omega
  · refine wp_iload_n dX8_in_5 rfl rfl ?_
    refine wp_iload_n dX8_in_6 rfl rfl ?_
    refine wp_icmp_gt (t := 14) dX8_in_7 rfl rfl (fun h7 => ?_) (fun h7 => ?_)
    · refine wp_iconst (v := 0) dX8_in_14 (by decide) rfl ?_
      refine wp_iret dX8_in_15 rfl (by decide) ?_
      refine ⟨_, _, rfl, rfl, ?_, rfl⟩
      simp only [bI, Int32.lt_iff_toInt_lt, Int32.le_iff_toInt_le] at *
      split <;> first | rfl | omega
    · refine wp_iconst (v := 1) dX8_in_10 (by decide) rfl ?_
      refine wp_goto (t := 15) dX8_in_11 rfl ?_
      refine wp_iret dX8_in_15 rfl (by decide) ?_
      refine ⟨_, _, rfl, rfl, ?_, rfl⟩
      simp only [bI, Int32.lt_iff_toInt_lt, Int32.le_iff_toInt_le] at *
      split <;> first | rfl | omega
theorem c8_isReach {v : Int32} : Ca (d + 1) MX8_isReach [vI v] (hN s) (Pd (bI (0 ≤ v ∧ v ≤ 11)) s) := by
  change Wp _ _ 0 [some _] [] _ _
  refine wp_iload_n dX8_isReach_0 rfl rfl ?_
  refine wp_iconst (v := 0) dX8_isReach_1 (by decide) rfl ?_
  refine wp_bipush (v := 11) dX8_isReach_2 (by decide) rfl ?_
  refine wn_callS3d dX8_isReach_4 rRX8_75 (Nat.le_of_ble_eq_true rfl) rfl rfl rfl (Nat.le_of_ble_eq_true rfl) rfl (c8_in) ?_
  refine wp_bret dX8_isReach_7 rfl ?_
  exact Pd.mk
theorem c8_isSheet {v : Int32} : Ca (d + 1) MX8_isSheet [vI v] (hN s) (Pd (bI (0 ≤ v ∧ v ≤ 3)) s) := by
  change Wp _ _ 0 [some _] [] _ _
  refine wp_iload_n dX8_isSheet_0 rfl rfl ?_
  refine wp_iconst (v := 0) dX8_isSheet_1 (by decide) rfl ?_
  refine wp_iconst (v := 3) dX8_isSheet_2 (by decide) rfl ?_
  refine wn_callS3d dX8_isSheet_3 rRX8_75 (Nat.le_of_ble_eq_true rfl) rfl rfl rfl (Nat.le_of_ble_eq_true rfl) rfl (c8_in) ?_
  refine wp_bret dX8_isSheet_6 rfl ?_
  exact Pd.mk
theorem c8_isSlot {v : Int32} : Ca (d + 1) MX8_isSlot [vI v] (hN s) (Pd (bI (0 ≤ v ∧ v ≤ 4)) s) := by
  change Wp _ _ 0 [some _] [] _ _
  refine wp_iload_n dX8_isSlot_0 rfl rfl ?_
  refine wp_iconst (v := 0) dX8_isSlot_1 (by decide) rfl ?_
  refine wp_iconst (v := 4) dX8_isSlot_2 (by decide) rfl ?_
  refine wn_callS3d dX8_isSlot_3 rRX8_75 (Nat.le_of_ble_eq_true rfl) rfl rfl rfl (Nat.le_of_ble_eq_true rfl) rfl (c8_in) ?_
  refine wp_bret dX8_isSlot_6 rfl ?_
  exact Pd.mk
theorem c8_within {v a b : Int32} : Ca d MX8_within [vI v, vI a, vI b] (hN s) (Pd (wth v a b) s) := by
  change Wp _ _ 0 [some _, some _, some _] [] _ _
  refine wp_iload_n dX8_within_0 rfl rfl ?_
  refine wp_iload_n dX8_within_1 rfl rfl ?_
  refine wp_icmp_ge (t := 9) dX8_within_2 rfl rfl (fun h2 => ?_) (fun h2 => ?_)
  · refine wp_iload_n dX8_within_9 rfl rfl ?_
    refine wp_iload_n dX8_within_10 rfl rfl ?_
    refine wp_icmp_le (t := 18) dX8_within_11 rfl rfl (fun h11 => ?_) (fun h11 => ?_)
    · refine wp_iload_n dX8_within_18 rfl rfl ?_
      refine wp_iret dX8_within_19 rfl rfl ?_
      refine ⟨_, _, rfl, rfl, ?_, rfl⟩
      simp only [wth, Int32.lt_iff_toInt_lt, Int32.le_iff_toInt_le] at *
      (repeat' split) <;> first | rfl | omega
    · refine wp_iload_n dX8_within_14 rfl rfl ?_
      refine wp_goto (t := 19) dX8_within_15 rfl ?_
      refine wp_iret dX8_within_19 rfl rfl ?_
      refine ⟨_, _, rfl, rfl, ?_, rfl⟩
      simp only [wth, Int32.lt_iff_toInt_lt, Int32.le_iff_toInt_le] at *
      (repeat' split) <;> first | rfl | omega
  · refine wp_iload_n dX8_within_5 rfl rfl ?_
    refine wp_goto (t := 19) dX8_within_6 rfl ?_
    refine wp_iret dX8_within_19 rfl rfl ?_
    refine ⟨_, _, rfl, rfl, ?_, rfl⟩
    simp only [wth, Int32.lt_iff_toInt_lt, Int32.le_iff_toInt_le] at *
    (repeat' split) <;> first | rfl | omega
end
