/-! THE PURE PART, 20: the class's logs and laws -/
def kdc (K fl pl : Int32) : Int32 := if K = 1 then pl / 2 else if K = 2 then pl + 1 else if K = 3 then (if fl < 5 then 0 else pl / 2) else if K = 4 then (if pl + 1 < 3 then pl + 1 else 3) else if K = 5 then 0 else pl
def wrc (K ms : Int32) : Int32 := if K = 1 then ms + 7 else if K = 2 then 99 - ms else if K = 3 then 2 * (ms + 7) else if K = 4 then 99 - ms - 5 else if K = 5 then 1 else ms
theorem wrc_eq (K ms : Int32) : wrc K ms = wor K ms := by
  unfold wrc wor
  have e : 99 - ms - 5 = 94 - ms := by
    rw [Int32.sub_eq_add_neg, Int32.sub_eq_add_neg, Int32.sub_eq_add_neg, Int32.add_assoc, Int32.add_comm (-ms) (-5), ← Int32.add_assoc]
    rfl
  rw [e]
def vof (c a b e : Int32) : Int32 := if c = 10000 then a else if c = 10001 then b else if c = 10002 then e else c
def jnd (g a b : Int32) : Int32 := if g = 38 then bI (¬ a = 0 ∧ ¬ b = 0) else if g = 42 then a * b else if g = 43 then a + b else if g = 45 then a - b else if g = 47 then (if b = 0 then 0 else a / b) else if g = 60 then bI (a < b) else if g = 61 then bI (a = b) else if g = 62 then bI (b < a) else if g = 124 then bI (¬ a = 0 ∨ ¬ b = 0) else 0
section
variable {d : Nat} {s : Sn}
theorem c1_isAfloat {i j : Nat} (hi : i < 4) (hj : j < 12) : Ca (d + 1) MX1_isAfloat [vR 12 i j] (hN s) (Pd (bI (0 ≤ s.1 (12, i, j) 3 ∧ s.1 (12, i, j) 3 < 12)) s) := by
  change Wp _ _ 0 [some _] [] _ _
  refine wp_aload_n dX1_isAfloat_0 rfl rfl ?_
  refine wn_getI dX1_isAfloat_1 fRX1_21 (o12 hi hj) rfl rfl ?_
  refine wn_callS1d dX1_isAfloat_4 rRX1_27 (Nat.le_of_ble_eq_true rfl) rfl (Nat.le_of_ble_eq_true rfl) rfl (c7_isReach) ?_
  refine wp_bret dX1_isAfloat_7 rfl ?_
  exact Pd.mk
theorem c1_driftFrom {i j : Nat} (hi : i < 4) (hj : j < 12) {pl fl : Int32} : Ca (d + 1) MX1_driftFrom [vR 12 i j, vI pl, vI fl] (hN s) (Pd (kdc (s.1 (12, i, j) 0) fl pl) s) := by
  change Wp _ _ 0 [some _, some _, some _] [] _ _
  refine wp_aload_n dX1_driftFrom_0 rfl rfl ?_
  refine wn_getI dX1_driftFrom_1 fRX1_9 (o12 hi hj) rfl rfl ?_
  refine wp_tsw5 (c0 := 1) (c1 := 2) (c2 := 3) (c3 := 4) (c4 := 5) (t0 := 40) (t1 := 57) (t2 := 44) (t3 := 61) (t4 := 69) (t := 71) dX1_driftFrom_4 rfl (by decide) (by decide) (by decide) (by decide) (by decide) rfl rfl rfl rfl rfl rfl rfl rfl rfl rfl rfl (fun k4 => ?_) (fun k4 => ?_) (fun k4 => ?_) (fun k4 => ?_) (fun k4 => ?_) (fun n4_0 n4_1 n4_2 n4_3 n4_4 => ?_)
  · refine wp_iload_n dX1_driftFrom_40 rfl rfl ?_
    refine wp_iconst (v := 2) dX1_driftFrom_41 (by decide) rfl ?_
    refine wp_idiv dX1_driftFrom_42 (by decide) rfl ?_
    refine wp_iret dX1_driftFrom_43 rfl rfl ?_
    refine ⟨_, _, rfl, rfl, ?_, rfl⟩
    rw [k4]
    rfl
  · refine wp_iload_n dX1_driftFrom_57 rfl rfl ?_
    refine wp_iconst (v := 1) dX1_driftFrom_58 (by decide) rfl ?_
    refine wp_iadd dX1_driftFrom_59 rfl ?_
    refine wp_iret dX1_driftFrom_60 rfl rfl ?_
    refine ⟨_, _, rfl, rfl, ?_, rfl⟩
    rw [k4]
    rfl
  · refine wp_iload_n dX1_driftFrom_44 rfl rfl ?_
    refine wp_iconst (v := 5) dX1_driftFrom_45 (by decide) rfl ?_
    refine wp_icmp_ge (t := 53) dX1_driftFrom_46 rfl rfl (fun h46 => ?_) (fun h46 => ?_)
    · refine wp_iload_n dX1_driftFrom_53 rfl rfl ?_
      refine wp_iconst (v := 2) dX1_driftFrom_54 (by decide) rfl ?_
      refine wp_idiv dX1_driftFrom_55 (by decide) rfl ?_
      refine wp_iret dX1_driftFrom_56 rfl rfl ?_
      refine ⟨_, _, rfl, rfl, ?_, rfl⟩
      rw [k4]
      show _ = (if fl < 5 then (0 : Int32) else _)
      rw [if_neg (Int32.not_lt.mpr h46)]
    · refine wp_iconst (v := 0) dX1_driftFrom_49 (by decide) rfl ?_
      refine wp_goto (t := 56) dX1_driftFrom_50 rfl ?_
      refine wp_iret dX1_driftFrom_56 rfl rfl ?_
      refine ⟨_, _, rfl, rfl, ?_, rfl⟩
      rw [k4]
      show _ = (if fl < 5 then (0 : Int32) else _)
      rw [if_pos (Int32.not_le.mp h46)]
  · refine wp_iconst (v := 3) dX1_driftFrom_61 (by decide) rfl ?_
    refine wp_iload_n dX1_driftFrom_62 rfl rfl ?_
    refine wp_iconst (v := 1) dX1_driftFrom_63 (by decide) rfl ?_
    refine wp_iadd dX1_driftFrom_64 rfl ?_
    refine wp_min dX1_driftFrom_65 rRX1_38 (by omega) (Nat.le_of_ble_eq_true rfl) rfl ?_
    refine wp_iret dX1_driftFrom_68 rfl rfl ?_
    refine ⟨_, _, rfl, rfl, ?_, rfl⟩
    rw [k4]
    rfl
  · refine wp_iconst (v := 0) dX1_driftFrom_69 (by decide) rfl ?_
    refine wp_iret dX1_driftFrom_70 rfl rfl ?_
    refine ⟨_, _, rfl, rfl, ?_, rfl⟩
    rw [k4]
    rfl
  · refine wp_iload_n dX1_driftFrom_71 rfl rfl ?_
    refine wp_iret dX1_driftFrom_72 rfl rfl ?_
    refine ⟨_, _, rfl, rfl, ?_, rfl⟩
    unfold kdc
    rw [if_neg n4_0, if_neg n4_1, if_neg n4_2, if_neg n4_3, if_neg n4_4]
theorem c1_claimedBy {i j : Nat} (hi : i < 4) (hj : j < 12) {sw : Int32} : Ca d MX1_claimedBy [vR 12 i j, vI sw] (hN s) (Pd (clm (s.1 (12, i, j) 0) sw) s) := by
  change Wp _ _ 0 [some _, some _] [] _ _
  refine wp_aload_n dX1_claimedBy_0 rfl rfl ?_
  refine wn_getI dX1_claimedBy_1 fRX1_9 (o12 hi hj) rfl rfl ?_
  refine wp_tsw4 (c0 := 2) (c1 := 3) (c2 := 4) (c3 := 5) (t0 := 40) (t1 := 36) (t2 := 45) (t3 := 47) (t := 49) dX1_claimedBy_4 rfl (by decide) (by decide) (by decide) (by decide) rfl rfl rfl rfl rfl rfl rfl rfl rfl (fun k4 => ?_) (fun k4 => ?_) (fun k4 => ?_) (fun k4 => ?_) (fun n4_0 n4_1 n4_2 n4_3 => ?_)
  · refine wp_iload_n dX1_claimedBy_40 rfl rfl ?_
    refine wp_bipush (v := 10) dX1_claimedBy_41 (by decide) rfl ?_
    refine wp_iadd dX1_claimedBy_43 rfl ?_
    refine wp_iret dX1_claimedBy_44 rfl rfl ?_
    refine ⟨_, _, rfl, rfl, ?_, rfl⟩
    rw [k4]
    rfl
  · refine wp_iload_n dX1_claimedBy_36 rfl rfl ?_
    refine wp_iconst (v := 2) dX1_claimedBy_37 (by decide) rfl ?_
    refine wp_idiv dX1_claimedBy_38 (by decide) rfl ?_
    refine wp_iret dX1_claimedBy_39 rfl rfl ?_
    refine ⟨_, _, rfl, rfl, ?_, rfl⟩
    rw [k4]
    rfl
  · refine wp_iconst (v := 0) dX1_claimedBy_45 (by decide) rfl ?_
    refine wp_iret dX1_claimedBy_46 rfl rfl ?_
    refine ⟨_, _, rfl, rfl, ?_, rfl⟩
    rw [k4]
    rfl
  · refine wp_iconst (v := 0) dX1_claimedBy_47 (by decide) rfl ?_
    refine wp_iret dX1_claimedBy_48 rfl rfl ?_
    refine ⟨_, _, rfl, rfl, ?_, rfl⟩
    rw [k4]
    rfl
  · refine wp_iload_n dX1_claimedBy_49 rfl rfl ?_
    refine wp_iret dX1_claimedBy_50 rfl rfl ?_
    refine ⟨_, _, rfl, rfl, ?_, rfl⟩
    unfold clm
    rw [if_neg n4_0, if_neg n4_1, if_neg n4_2, if_neg n4_3]
theorem c1_worth {i j : Nat} (hi : i < 4) (hj : j < 12) : Ca d MX1_worth [vR 12 i j] (hN s) (Pd (wrc (s.1 (12, i, j) 0) (s.1 (12, i, j) 2)) s) := by
  change Wp _ _ 0 [some _] [] _ _
  refine wp_aload_n dX1_worth_0 rfl rfl ?_
  refine wn_getI dX1_worth_1 fRX1_9 (o12 hi hj) rfl rfl ?_
  refine wp_tsw5 (c0 := 1) (c1 := 2) (c2 := 3) (c3 := 4) (c4 := 5) (t0 := 40) (t1 := 58) (t2 := 48) (t3 := 66) (t4 := 76) (t := 78) dX1_worth_4 rfl (by decide) (by decide) (by decide) (by decide) (by decide) rfl rfl rfl rfl rfl rfl rfl rfl rfl rfl rfl (fun k4 => ?_) (fun k4 => ?_) (fun k4 => ?_) (fun k4 => ?_) (fun k4 => ?_) (fun n4_0 n4_1 n4_2 n4_3 n4_4 => ?_)
  · refine wp_aload_n dX1_worth_40 rfl rfl ?_
    refine wn_getI dX1_worth_41 fRX1_18 (o12 hi hj) rfl rfl ?_
    refine wp_bipush (v := 7) dX1_worth_44 (by decide) rfl ?_
    refine wp_iadd dX1_worth_46 rfl ?_
    refine wp_iret dX1_worth_47 rfl rfl ?_
    refine ⟨_, _, rfl, rfl, ?_, rfl⟩
    rw [k4]
    rfl
  · refine wp_bipush (v := 99) dX1_worth_58 (by decide) rfl ?_
    refine wp_aload_n dX1_worth_60 rfl rfl ?_
    refine wn_getI dX1_worth_61 fRX1_18 (o12 hi hj) rfl rfl ?_
    refine wp_isub dX1_worth_64 rfl ?_
    refine wp_iret dX1_worth_65 rfl rfl ?_
    refine ⟨_, _, rfl, rfl, ?_, rfl⟩
    rw [k4]
    rfl
  · refine wp_iconst (v := 2) dX1_worth_48 (by decide) rfl ?_
    refine wp_aload_n dX1_worth_49 rfl rfl ?_
    refine wn_getI dX1_worth_50 fRX1_18 (o12 hi hj) rfl rfl ?_
    refine wp_bipush (v := 7) dX1_worth_53 (by decide) rfl ?_
    refine wp_iadd dX1_worth_55 rfl ?_
    refine wp_imul dX1_worth_56 rfl ?_
    refine wp_iret dX1_worth_57 rfl rfl ?_
    refine ⟨_, _, rfl, rfl, ?_, rfl⟩
    rw [k4]
    rfl
  · refine wp_bipush (v := 99) dX1_worth_66 (by decide) rfl ?_
    refine wp_aload_n dX1_worth_68 rfl rfl ?_
    refine wn_getI dX1_worth_69 fRX1_18 (o12 hi hj) rfl rfl ?_
    refine wp_isub dX1_worth_72 rfl ?_
    refine wp_iconst (v := 5) dX1_worth_73 (by decide) rfl ?_
    refine wp_isub dX1_worth_74 rfl ?_
    refine wp_iret dX1_worth_75 rfl rfl ?_
    refine ⟨_, _, rfl, rfl, ?_, rfl⟩
    rw [k4]
    rfl
  · refine wp_iconst (v := 1) dX1_worth_76 (by decide) rfl ?_
    refine wp_iret dX1_worth_77 rfl rfl ?_
    refine ⟨_, _, rfl, rfl, ?_, rfl⟩
    rw [k4]
    rfl
  · refine wp_aload_n dX1_worth_78 rfl rfl ?_
    refine wn_getI dX1_worth_79 fRX1_18 (o12 hi hj) rfl rfl ?_
    refine wp_iret dX1_worth_82 rfl rfl ?_
    refine ⟨_, _, rfl, rfl, ?_, rfl⟩
    unfold wrc
    rw [if_neg n4_0, if_neg n4_1, if_neg n4_2, if_neg n4_3, if_neg n4_4]
theorem c1_worths {i : Nat} (hi : i < 5) : Ca d MX1_worth [vR 31 i 0] (hN s) (Pd (wrc (s.1 (31, i, 0) 0) (s.1 (31, i, 0) 2)) s) := by
  change Wp _ _ 0 [some _] [] _ _
  refine wp_aload_n dX1_worth_0 rfl rfl ?_
  refine wn_getI dX1_worth_1 fRX1_9 (o31 hi) rfl rfl ?_
  refine wp_tsw5 (c0 := 1) (c1 := 2) (c2 := 3) (c3 := 4) (c4 := 5) (t0 := 40) (t1 := 58) (t2 := 48) (t3 := 66) (t4 := 76) (t := 78) dX1_worth_4 rfl (by decide) (by decide) (by decide) (by decide) (by decide) rfl rfl rfl rfl rfl rfl rfl rfl rfl rfl rfl (fun k4 => ?_) (fun k4 => ?_) (fun k4 => ?_) (fun k4 => ?_) (fun k4 => ?_) (fun n4_0 n4_1 n4_2 n4_3 n4_4 => ?_)
  · refine wp_aload_n dX1_worth_40 rfl rfl ?_
    refine wn_getI dX1_worth_41 fRX1_18 (o31 hi) rfl rfl ?_
    refine wp_bipush (v := 7) dX1_worth_44 (by decide) rfl ?_
    refine wp_iadd dX1_worth_46 rfl ?_
    refine wp_iret dX1_worth_47 rfl rfl ?_
    refine ⟨_, _, rfl, rfl, ?_, rfl⟩
    rw [k4]
    rfl
  · refine wp_bipush (v := 99) dX1_worth_58 (by decide) rfl ?_
    refine wp_aload_n dX1_worth_60 rfl rfl ?_
    refine wn_getI dX1_worth_61 fRX1_18 (o31 hi) rfl rfl ?_
    refine wp_isub dX1_worth_64 rfl ?_
    refine wp_iret dX1_worth_65 rfl rfl ?_
    refine ⟨_, _, rfl, rfl, ?_, rfl⟩
    rw [k4]
    rfl
  · refine wp_iconst (v := 2) dX1_worth_48 (by decide) rfl ?_
    refine wp_aload_n dX1_worth_49 rfl rfl ?_
    refine wn_getI dX1_worth_50 fRX1_18 (o31 hi) rfl rfl ?_
    refine wp_bipush (v := 7) dX1_worth_53 (by decide) rfl ?_
    refine wp_iadd dX1_worth_55 rfl ?_
    refine wp_imul dX1_worth_56 rfl ?_
    refine wp_iret dX1_worth_57 rfl rfl ?_
    refine ⟨_, _, rfl, rfl, ?_, rfl⟩
    rw [k4]
    rfl
  · refine wp_bipush (v := 99) dX1_worth_66 (by decide) rfl ?_
    refine wp_aload_n dX1_worth_68 rfl rfl ?_
    refine wn_getI dX1_worth_69 fRX1_18 (o31 hi) rfl rfl ?_
    refine wp_isub dX1_worth_72 rfl ?_
    refine wp_iconst (v := 5) dX1_worth_73 (by decide) rfl ?_
    refine wp_isub dX1_worth_74 rfl ?_
    refine wp_iret dX1_worth_75 rfl rfl ?_
    refine ⟨_, _, rfl, rfl, ?_, rfl⟩
    rw [k4]
    rfl
  · refine wp_iconst (v := 1) dX1_worth_76 (by decide) rfl ?_
    refine wp_iret dX1_worth_77 rfl rfl ?_
    refine ⟨_, _, rfl, rfl, ?_, rfl⟩
    rw [k4]
    rfl
  · refine wp_aload_n dX1_worth_78 rfl rfl ?_
    refine wn_getI dX1_worth_79 fRX1_18 (o31 hi) rfl rfl ?_
    refine wp_iret dX1_worth_82 rfl rfl ?_
    refine ⟨_, _, rfl, rfl, ?_, rfl⟩
    unfold wrc
    rw [if_neg n4_0, if_neg n4_1, if_neg n4_2, if_neg n4_3, if_neg n4_4]
theorem c0_valueOf {c a b e : Int32} : Ca d MX0_valueOf [vI c, vI a, vI b, vI e] (hN s) (Pd (vof c a b e) s) := by
  change Wp _ _ 0 [some _, some _, some _, some _] [] _ _
  refine wp_iload_n dX0_valueOf_0 rfl rfl ?_
  refine wp_tsw3 (c0 := 10000) (c1 := 10001) (c2 := 10002) (t0 := 28) (t1 := 30) (t2 := 32) (t := 34) dX0_valueOf_1 rfl (by decide) (by decide) (by decide) rfl rfl rfl rfl rfl rfl rfl (fun k1 => ?_) (fun k1 => ?_) (fun k1 => ?_) (fun n1_0 n1_1 n1_2 => ?_)
  · refine wp_iload_n dX0_valueOf_28 rfl rfl ?_
    refine wp_iret dX0_valueOf_29 rfl rfl ?_
    refine ⟨_, _, rfl, rfl, ?_, rfl⟩
    rw [k1]
    rfl
  · refine wp_iload_n dX0_valueOf_30 rfl rfl ?_
    refine wp_iret dX0_valueOf_31 rfl rfl ?_
    refine ⟨_, _, rfl, rfl, ?_, rfl⟩
    rw [k1]
    rfl
  · refine wp_iload_n dX0_valueOf_32 rfl rfl ?_
    refine wp_iret dX0_valueOf_33 rfl rfl ?_
    refine ⟨_, _, rfl, rfl, ?_, rfl⟩
    rw [k1]
    rfl
  · refine wp_iload_n dX0_valueOf_34 rfl rfl ?_
    refine wp_iret dX0_valueOf_35 rfl rfl ?_
    refine ⟨_, _, rfl, rfl, ?_, rfl⟩
    unfold vof
    rw [if_neg n1_0, if_neg n1_1, if_neg n1_2]
theorem c0_joined {g a b : Int32} : Ca d MX0_joined [vI g, vI a, vI b] (hN s) (Pd (jnd g a b) s) := by
  change Wp _ _ 0 [some _, some _, some _] [] _ _
  refine wp_iload_n dX0_joined_0 rfl rfl ?_
  refine wp_lsw9 (c0 := 38) (c1 := 42) (c2 := 43) (c3 := 45) (c4 := 47) (c5 := 60) (c6 := 61) (c7 := 62) (c8 := 124) (t0 := 98) (t1 := 153) (t2 := 145) (t3 := 149) (t4 := 157) (t5 := 112) (t6 := 123) (t7 := 134) (t8 := 84) (t := 169) dX0_joined_1 rfl (by decide) (by decide) (by decide) (by decide) (by decide) (by decide) (by decide) (by decide) (by decide) (by decide) (by decide) (by decide) (by decide) (by decide) (by decide) (by decide) (by decide) (by decide) (by decide) rfl rfl rfl rfl rfl rfl rfl rfl rfl rfl (fun k1 => ?_) (fun k1 => ?_) (fun k1 => ?_) (fun k1 => ?_) (fun k1 => ?_) (fun k1 => ?_) (fun k1 => ?_) (fun k1 => ?_) (fun k1 => ?_) (fun n1_0 n1_1 n1_2 n1_3 n1_4 n1_5 n1_6 n1_7 n1_8 => ?_)
  · refine wp_iload_n dX0_joined_98 rfl rfl ?_
    refine wp_if_eq (t := 110) dX0_joined_99 rfl rfl (fun h99 => ?_) (fun h99 => ?_)
    · refine wp_iconst (v := 0) dX0_joined_110 (by decide) rfl ?_
      refine wp_iret dX0_joined_111 rfl rfl ?_
      refine ⟨_, _, rfl, rfl, ?_, rfl⟩
      subst k1
      show _ = bI _
      unfold bI
      split <;> first | rfl | (exfalso; simp only [Int32.lt_iff_toInt_lt, Int32.le_iff_toInt_le] at *; omega) | (exfalso; simp_all)
    · refine wp_iload_n dX0_joined_102 rfl rfl ?_
      refine wp_if_eq (t := 110) dX0_joined_103 rfl rfl (fun h103 => ?_) (fun h103 => ?_)
      · refine wp_iconst (v := 0) dX0_joined_110 (by decide) rfl ?_
        refine wp_iret dX0_joined_111 rfl rfl ?_
        refine ⟨_, _, rfl, rfl, ?_, rfl⟩
        subst k1
        show _ = bI _
        unfold bI
        split <;> first | rfl | (exfalso; simp only [Int32.lt_iff_toInt_lt, Int32.le_iff_toInt_le] at *; omega) | (exfalso; simp_all)
      · refine wp_iconst (v := 1) dX0_joined_106 (by decide) rfl ?_
        refine wp_goto (t := 111) dX0_joined_107 rfl ?_
        refine wp_iret dX0_joined_111 rfl rfl ?_
        refine ⟨_, _, rfl, rfl, ?_, rfl⟩
        subst k1
        show _ = bI _
        unfold bI
        split <;> first | rfl | (exfalso; simp only [Int32.lt_iff_toInt_lt, Int32.le_iff_toInt_le] at *; omega) | (exfalso; simp_all)
  · refine wp_iload_n dX0_joined_153 rfl rfl ?_
    refine wp_iload_n dX0_joined_154 rfl rfl ?_
    refine wp_imul dX0_joined_155 rfl ?_
    refine wp_iret dX0_joined_156 rfl rfl ?_
    refine ⟨_, _, rfl, rfl, ?_, rfl⟩
    subst k1
    rfl
  · refine wp_iload_n dX0_joined_145 rfl rfl ?_
    refine wp_iload_n dX0_joined_146 rfl rfl ?_
    refine wp_iadd dX0_joined_147 rfl ?_
    refine wp_iret dX0_joined_148 rfl rfl ?_
    refine ⟨_, _, rfl, rfl, ?_, rfl⟩
    subst k1
    rfl
  · refine wp_iload_n dX0_joined_149 rfl rfl ?_
    refine wp_iload_n dX0_joined_150 rfl rfl ?_
    refine wp_isub dX0_joined_151 rfl ?_
    refine wp_iret dX0_joined_152 rfl rfl ?_
    refine ⟨_, _, rfl, rfl, ?_, rfl⟩
    subst k1
    rfl
  · refine wp_iload_n dX0_joined_157 rfl rfl ?_
    refine wp_if_ne (t := 165) dX0_joined_158 rfl rfl (fun h158 => ?_) (fun h158 => ?_)
    · refine wp_iload_n dX0_joined_165 rfl rfl ?_
      refine wp_iload_n dX0_joined_166 rfl rfl ?_
      refine wp_idiv dX0_joined_167 h158 rfl ?_
      refine wp_iret dX0_joined_168 rfl rfl ?_
      refine ⟨_, _, rfl, rfl, ?_, rfl⟩
      subst k1
      show _ = (if b = 0 then (0 : Int32) else a / b)
      rw [if_neg h158]
    · refine wp_iconst (v := 0) dX0_joined_161 (by decide) rfl ?_
      refine wp_goto (t := 168) dX0_joined_162 rfl ?_
      refine wp_iret dX0_joined_168 rfl rfl ?_
      refine ⟨_, _, rfl, rfl, ?_, rfl⟩
      subst k1
      show _ = (if b = 0 then (0 : Int32) else a / b)
      rw [if_pos h158]
  · refine wp_iload_n dX0_joined_112 rfl rfl ?_
    refine wp_iload_n dX0_joined_113 rfl rfl ?_
    refine wp_icmp_ge (t := 121) dX0_joined_114 rfl rfl (fun h114 => ?_) (fun h114 => ?_)
    · refine wp_iconst (v := 0) dX0_joined_121 (by decide) rfl ?_
      refine wp_iret dX0_joined_122 rfl rfl ?_
      refine ⟨_, _, rfl, rfl, ?_, rfl⟩
      subst k1
      show _ = bI _
      unfold bI
      split <;> first | rfl | (exfalso; simp only [Int32.lt_iff_toInt_lt, Int32.le_iff_toInt_le] at *; omega) | (exfalso; simp_all)
    · refine wp_iconst (v := 1) dX0_joined_117 (by decide) rfl ?_
      refine wp_goto (t := 122) dX0_joined_118 rfl ?_
      refine wp_iret dX0_joined_122 rfl rfl ?_
      refine ⟨_, _, rfl, rfl, ?_, rfl⟩
      subst k1
      show _ = bI _
      unfold bI
      split <;> first | rfl | (exfalso; simp only [Int32.lt_iff_toInt_lt, Int32.le_iff_toInt_le] at *; omega) | (exfalso; simp_all)
  · refine wp_iload_n dX0_joined_123 rfl rfl ?_
    refine wp_iload_n dX0_joined_124 rfl rfl ?_
    refine wp_icmp_ne (t := 132) dX0_joined_125 rfl rfl (fun h125 => ?_) (fun h125 => ?_)
    · refine wp_iconst (v := 0) dX0_joined_132 (by decide) rfl ?_
      refine wp_iret dX0_joined_133 rfl rfl ?_
      refine ⟨_, _, rfl, rfl, ?_, rfl⟩
      subst k1
      show _ = bI _
      unfold bI
      split <;> first | rfl | (exfalso; simp only [Int32.lt_iff_toInt_lt, Int32.le_iff_toInt_le] at *; omega) | (exfalso; simp_all)
    · refine wp_iconst (v := 1) dX0_joined_128 (by decide) rfl ?_
      refine wp_goto (t := 133) dX0_joined_129 rfl ?_
      refine wp_iret dX0_joined_133 rfl rfl ?_
      refine ⟨_, _, rfl, rfl, ?_, rfl⟩
      subst k1
      show _ = bI _
      unfold bI
      split <;> first | rfl | (exfalso; simp only [Int32.lt_iff_toInt_lt, Int32.le_iff_toInt_le] at *; omega) | (exfalso; simp_all)
  · refine wp_iload_n dX0_joined_134 rfl rfl ?_
    refine wp_iload_n dX0_joined_135 rfl rfl ?_
    refine wp_icmp_le (t := 143) dX0_joined_136 rfl rfl (fun h136 => ?_) (fun h136 => ?_)
    · refine wp_iconst (v := 0) dX0_joined_143 (by decide) rfl ?_
      refine wp_iret dX0_joined_144 rfl rfl ?_
      refine ⟨_, _, rfl, rfl, ?_, rfl⟩
      subst k1
      show _ = bI _
      unfold bI
      split <;> first | rfl | (exfalso; simp only [Int32.lt_iff_toInt_lt, Int32.le_iff_toInt_le] at *; omega) | (exfalso; simp_all)
    · refine wp_iconst (v := 1) dX0_joined_139 (by decide) rfl ?_
      refine wp_goto (t := 144) dX0_joined_140 rfl ?_
      refine wp_iret dX0_joined_144 rfl rfl ?_
      refine ⟨_, _, rfl, rfl, ?_, rfl⟩
      subst k1
      show _ = bI _
      unfold bI
      split <;> first | rfl | (exfalso; simp only [Int32.lt_iff_toInt_lt, Int32.le_iff_toInt_le] at *; omega) | (exfalso; simp_all)
  · refine wp_iload_n dX0_joined_84 rfl rfl ?_
    refine wp_if_ne (t := 92) dX0_joined_85 rfl rfl (fun h85 => ?_) (fun h85 => ?_)
    · refine wp_iconst (v := 1) dX0_joined_92 (by decide) rfl ?_
      refine wp_goto (t := 97) dX0_joined_93 rfl ?_
      refine wp_iret dX0_joined_97 rfl rfl ?_
      refine ⟨_, _, rfl, rfl, ?_, rfl⟩
      subst k1
      show _ = bI _
      unfold bI
      split <;> first | rfl | (exfalso; simp only [Int32.lt_iff_toInt_lt, Int32.le_iff_toInt_le] at *; omega) | (exfalso; simp_all)
    · refine wp_iload_n dX0_joined_88 rfl rfl ?_
      refine wp_if_eq (t := 96) dX0_joined_89 rfl rfl (fun h89 => ?_) (fun h89 => ?_)
      · refine wp_iconst (v := 0) dX0_joined_96 (by decide) rfl ?_
        refine wp_iret dX0_joined_97 rfl rfl ?_
        refine ⟨_, _, rfl, rfl, ?_, rfl⟩
        subst k1
        show _ = bI _
        unfold bI
        split <;> first | rfl | (exfalso; simp only [Int32.lt_iff_toInt_lt, Int32.le_iff_toInt_le] at *; omega) | (exfalso; simp_all)
      · refine wp_iconst (v := 1) dX0_joined_92 (by decide) rfl ?_
        refine wp_goto (t := 97) dX0_joined_93 rfl ?_
        refine wp_iret dX0_joined_97 rfl rfl ?_
        refine ⟨_, _, rfl, rfl, ?_, rfl⟩
        subst k1
        show _ = bI _
        unfold bI
        split <;> first | rfl | (exfalso; simp only [Int32.lt_iff_toInt_lt, Int32.le_iff_toInt_le] at *; omega) | (exfalso; simp_all)
  · refine wp_iconst (v := 0) dX0_joined_169 (by decide) rfl ?_
    refine wp_iret dX0_joined_170 rfl rfl ?_
    refine ⟨_, _, rfl, rfl, ?_, rfl⟩
    unfold jnd
    rw [if_neg n1_0, if_neg n1_1, if_neg n1_2, if_neg n1_3, if_neg n1_4, if_neg n1_5, if_neg n1_6, if_neg n1_7, if_neg n1_8]
/-- a sign of the reference, as the class keeps it -/
def trC (c : Int32) : Int32 := if 0 ≤ c then c else if c = -1 then 20124 else if c = -2 then 20038 else if c = -3 then 20060 else if c = -4 then 20061 else if c = -5 then 20062 else if c = -6 then 20043 else if c = -7 then 20045 else if c = -8 then 20042 else if c = -9 then 20047 else 20033
theorem neg9 {c : Int32} (h1 : -10 ≤ c) (h2 : ¬ 0 ≤ c) (h3 : ¬ c = -10) : c = -1 ∨ c = -2 ∨ c = -3 ∨ c = -4 ∨ c = -5 ∨ c = -6 ∨ c = -7 ∨ c = -8 ∨ c = -9 := by
  rw [Int32.le_iff_toInt_le] at h1 h2
  have e1 : (-10 : Int32).toInt = -10 := by decide
  have e0 : (0 : Int32).toInt = 0 := by decide
  have h4 : ¬ c.toInt = -10 := fun z => h3 (eqI (z.trans e1.symm))
  have h : c.toInt = -1 ∨ c.toInt = -2 ∨ c.toInt = -3 ∨ c.toInt = -4 ∨ c.toInt = -5 ∨ c.toInt = -6 ∨ c.toInt = -7 ∨ c.toInt = -8 ∨ c.toInt = -9 := by omega
  rcases h with h | h | h | h | h | h | h | h | h
  · exact Or.inl (eqI (h.trans (by decide)))
  · exact Or.inr (Or.inl (eqI (h.trans (by decide))))
  · exact Or.inr (Or.inr (Or.inl (eqI (h.trans (by decide)))))
  · exact Or.inr (Or.inr (Or.inr (Or.inl (eqI (h.trans (by decide))))))
  · exact Or.inr (Or.inr (Or.inr (Or.inr (Or.inl (eqI (h.trans (by decide)))))))
  · exact Or.inr (Or.inr (Or.inr (Or.inr (Or.inr (Or.inl (eqI (h.trans (by decide))))))))
  · exact Or.inr (Or.inr (Or.inr (Or.inr (Or.inr (Or.inr (Or.inl (eqI (h.trans (by decide)))))))))
  · exact Or.inr (Or.inr (Or.inr (Or.inr (Or.inr (Or.inr (Or.inr (Or.inl (eqI (h.trans (by decide))))))))))
  · exact Or.inr (Or.inr (Or.inr (Or.inr (Or.inr (Or.inr (Or.inr (Or.inr (eqI (h.trans (by decide))))))))))
theorem trC_pos {c : Int32} (h : 0 ≤ c) : trC c = c := by unfold trC; rw [if_pos h]
theorem trC_not : trC (-10) = 20033 := by decide
theorem trC_sign {c : Int32} (h1 : -10 ≤ c) (h2 : ¬ 0 ≤ c) (h3 : ¬ c = -10) : 20000 ≤ trC c ∧ ¬ trC c = 20033 ∧ ∀ a b, jnd (trC c - 20000) a b = two c a b := by
  rcases neg9 h1 h2 h3 with rfl | rfl | rfl | rfl | rfl | rfl | rfl | rfl | rfl <;> exact ⟨by decide, by decide, fun _ _ => rfl⟩
theorem vof_eq {c a b e : Int32} (h0 : 0 ≤ c) (h3 : c < 10003) : vof c a b e = (if c < 10000 then c else fa3 a b e (c - 10000)) := by
  by_cases h : c < 10000
  · rw [if_pos h]
    unfold vof
    have e1 : (10000 : Int32).toInt = 10000 := by decide
    have e2 : (10001 : Int32).toInt = 10001 := by decide
    have e4 : (10002 : Int32).toInt = 10002 := by decide
    rw [Int32.lt_iff_toInt_lt] at h
    rw [if_neg (fun z => by rw [z] at h; omega), if_neg (fun z => by rw [z] at h; omega), if_neg (fun z => by rw [z] at h; omega)]
  · rw [if_neg h]
    obtain ⟨k, hk, rfl⟩ := nI_of (Int32.not_lt.mpr h0)
    have g1 := mt (nI_ltI (b := 10000) hk (by omega)).mpr h
    have g2 := (nI_ltI (b := 10003) hk (by omega)).mp h3
    have : k = 10000 ∨ k = 10001 ∨ k = 10002 := by omega
    rcases this with rfl | rfl | rfl <;> rfl
def cdl (cf : Nat → Int32) (n : Nat) : List Int32 := (List.range n).map cf
theorem cdl_drop {cf : Nat → Int32} {n k : Nat} (h : k < n) : (cdl cf n).drop k = cf k :: (cdl cf n).drop (k + 1) := by
  unfold cdl
  rw [← List.map_drop, ← List.map_drop, List.drop_eq_getElem_cons (by rw [List.length_range]; exact h), List.map_cons, List.getElem_range]
theorem cdl_end {cf : Nat → Int32} {n : Nat} : (cdl cf n).drop n = [] := by
  apply List.drop_eq_nil_of_le
  unfold cdl
  rw [List.length_map, List.length_range]
  exact Nat.le_refl _
theorem l0_give {n m : Nat} {cf : Nat → Int32} {a b e : Int32} (hn : n < s.2.2.2.1) (hm : s.2.2.1.2 n = m) (hm96 : m ≤ 96) (hcf : ∀ k, k < m → s.1 (35, n, 0) k = trC (cf k)) : ∀ k, k ≤ m → ∀ (stk : List Int32) (s1 : Sn) (c6 : Option Av), Fr [(36, n, 0)] s s1 → SP (s1.1 (36, n, 0)) stk → wfd ((cdl cf m).drop k) stk.length = true → stk.length ≤ k → Wp (d + 1) MX0_give 6 [some (vR 34 n 0), some (vI a), some (vI b), some (vI e), some (vI (nI stk.length)), some (vI (nI k)), c6] [] (hN s1) (Pv fun x t1 => x = (evl (fa3 a b e) ((cdl cf m).drop k) stk).headD 0 ∧ Fr [(36, n, 0)] s t1) := by
  refine ind_up (fun k hk ih => ?_)
  intro stk s1 c6 hF hS hW hL
  have hn1 : n < s1.2.2.2.1 := by rw [hF.2]; exact hn
  have hm1 : s1.2.2.1.2 n = m := by rw [hF.2]; exact hm
  refine wp_iload dX0_give_6 rfl rfl ?_
  refine wp_aload_n dX0_give_8 rfl rfl ?_
  refine wn_getR dX0_give_9 fRX0_22 (o34 hn1) rfl rfl rfl ?_
  refine wn_alen dX0_give_12 (o35 hn1) rfl rfl rfl ?_
  rw [show lnf s1.2.2.1 (35, n, 0) = m from hm1]
  refine wp_icmp_ge (t := 155) dX0_give_13 rfl rfl (fun h13 => ?_) (fun h13 => ?_)
  · refine wp_aload_n dX0_give_155 rfl rfl ?_
    refine wn_getR dX0_give_156 fRX0_38 (o34 hn1) rfl rfl rfl ?_
    refine wp_iconst (v := 0) dX0_give_159 (by decide) rfl ?_
    refine wn_iald (j := 0) dX0_give_160 (o36 hn1) rfl ⟨by decide, by decide⟩ (by show 0 < max 1 _; omega) rfl ?_
    refine wp_iret dX0_give_161 rfl rfl ?_
    have hkn : k = m := by have := (nI_leI (by omega) (by omega)).mp h13; omega
    subst hkn
    rw [cdl_end] at hW ⊢
    have h1 : stk.length = 1 := by simpa [wfd] using hW
    obtain ⟨a1, rfl⟩ := List.length_eq_one_iff.mp h1
    exact ⟨_, _, rfl, rfl, hS.1, hF⟩
  · have hl : k < m := by have := mt (nI_leI (by omega) (by omega)).mpr h13; omega
    rw [cdl_drop hl, wfd] at hW
    rw [cdl_drop hl, evl]
    refine wp_aload_n dX0_give_16 rfl rfl ?_
    refine wn_getR dX0_give_17 fRX0_22 (o34 hn1) rfl rfl rfl ?_
    refine wp_iload dX0_give_20 rfl rfl ?_
    refine wn_iald dX0_give_22 (o35 hn1) rfl (nIx rfl (by omega)) (by show _ < s1.2.2.1.2 n; rw [hm1]; exact hl) rfl ?_
    rw [show s1.1 (35, n, 0) = s.1 (35, n, 0) from hF.1 _ (by simp), hcf k hl]
    generalize cf k = c at hW ⊢
    refine wp_istore (l' := [_, _, _, _, _, _, some _]) dX0_give_23 rfl rfl ?_
    refine wp_iload dX0_give_25 rfl rfl ?_
    refine wp_sipush (v := 20000) dX0_give_27 (by decide) rfl ?_
    refine wp_icmp_ge (t := 64) dX0_give_30 rfl rfl (fun h30 => ?_) (fun h30 => ?_)
    · have h0c : ¬ 0 ≤ c := fun z => by
        rw [if_pos z] at hW
        simp only [Bool.and_eq_true, decide_eq_true_eq] at hW
        rw [trC_pos z] at h30
        have g1 := hW.2.1
        simp only [Int32.lt_iff_toInt_lt, Int32.le_iff_toInt_le] at h30 g1
        have q1 : (20000 : Int32).toInt = 20000 := by decide
        have q2 : (10003 : Int32).toInt = 10003 := by decide
        omega
      rw [if_neg h0c] at hW ⊢
      refine wp_iload dX0_give_64 rfl rfl ?_
      refine wp_sipush (v := 20033) dX0_give_66 (by decide) rfl ?_
      refine wp_icmp_ne (t := 106) dX0_give_69 rfl rfl (fun h69 => ?_) (fun h69 => ?_)
      · have hq : ¬ c = -10 := fun z => by rw [z, trC_not] at h69; exact h69 rfl
        rw [if_neg hq] at hW ⊢
        simp only [Bool.and_eq_true, decide_eq_true_eq] at hW
        obtain ⟨b1, a1, r, rfl⟩ : ∃ b a r, stk = b :: a :: r := by cases stk with | nil => exact absurd hW.1 (by decide) | cons b q => cases q with | nil => exact absurd hW.1 (by show ¬ 2 ≤ 1; decide) | cons a r => exact ⟨b, a, r, rfl⟩
        have hL : r.length + 2 ≤ k := hL
        rw [show nI (b1 :: a1 :: r).length = nI (r.length + 1 + 1) from rfl]
        refine wp_iload dX0_give_106 rfl rfl ?_
        refine wp_iconst (v := 1) dX0_give_108 (by decide) rfl ?_
        refine wp_icmp_le (t := 149) dX0_give_109 rfl rfl (fun h109 => absurd ((nI_leI (b := 1) (by omega) (by omega)).mp h109) (by omega)) (fun h109 => ?_)
        refine wp_iinc (l' := [_, _, _, _, some _, _, _]) (v := (-1)) dX0_give_112 rfl (by decide) rfl rfl ?_
        rw [m1_sub, nI_pred]
        refine wp_aload_n dX0_give_115 rfl rfl ?_
        refine wn_getR dX0_give_116 fRX0_38 (o34 hn1) rfl rfl rfl ?_
        refine wp_iload dX0_give_119 rfl rfl ?_
        refine wp_iconst (v := 1) dX0_give_121 (by decide) rfl ?_
        refine wp_isub dX0_give_122 rfl ?_
        rw [nI_pred]
        refine wp_iload dX0_give_123 rfl rfl ?_
        refine wp_sipush (v := 20000) dX0_give_125 (by decide) rfl ?_
        refine wp_isub dX0_give_128 rfl ?_
        refine wp_aload_n dX0_give_129 rfl rfl ?_
        refine wn_getR dX0_give_130 fRX0_38 (o34 hn1) rfl rfl rfl ?_
        refine wp_iload dX0_give_133 rfl rfl ?_
        refine wp_iconst (v := 1) dX0_give_135 (by decide) rfl ?_
        refine wp_isub dX0_give_136 rfl ?_
        rw [nI_pred]
        refine wn_iald dX0_give_137 (o36 hn1) rfl (nIx rfl (by omega)) (by show _ < max 1 (s1.2.2.1.2 n); rw [hm1]; omega) rfl ?_
        rw [hS.2.1]
        refine wp_aload_n dX0_give_138 rfl rfl ?_
        refine wn_getR dX0_give_139 fRX0_38 (o34 hn1) rfl rfl rfl ?_
        refine wp_iload dX0_give_142 rfl rfl ?_
        refine wn_iald dX0_give_144 (o36 hn1) rfl (nIx rfl (by omega)) (by show _ < max 1 (s1.2.2.1.2 n); rw [hm1]; omega) rfl ?_
        rw [show s1.1 (36, n, 0) (r.length + 1) = b1 from hS.1]
        refine wn_callS3d dX0_give_145 rRX0_45 (Nat.le_of_ble_eq_true rfl) rfl rfl rfl (Nat.le_of_ble_eq_true rfl) rfl (c0_joined) ?_
        rw [(trC_sign hW.2.1 h0c hq).2.2]
        refine wn_iast dX0_give_148 (o36 hn1) rfl (nIx rfl (by omega)) (by show _ < max 1 (s1.2.2.1.2 n); rw [hm1]; omega) rfl ?_
        refine wp_iinc (l' := [_, _, _, _, _, some _, _]) (v := 1) dX0_give_149 rfl (by decide) rfl rfl ?_
        refine wp_goto (t := 6) dX0_give_152 rfl ?_
        rw [nI_1]
        exact ih hl (_ :: r) (sI s1 (36, n, 0) r.length _) _ (hF.pt (List.mem_singleton.mpr rfl)) (by rw [sI_row]; exact SP_push hS.2.2) hW.2.2 (by show r.length + 1 ≤ _; omega)
      · have hq : c = -10 := Decidable.byContradiction fun z => by
          rw [if_neg z] at hW
          simp only [Bool.and_eq_true, decide_eq_true_eq] at hW
          exact absurd h69 (trC_sign hW.2.1 h0c z).2.1
        rw [if_pos hq] at hW ⊢
        simp only [Bool.and_eq_true, decide_eq_true_eq] at hW
        obtain ⟨a1, r, rfl⟩ : ∃ a r, stk = a :: r := by cases stk with | nil => exact absurd hW.1 (by decide) | cons a r => exact ⟨a, r, rfl⟩
        have hL : r.length + 1 ≤ k := hL
        rw [show nI (a1 :: r).length = nI (r.length + 1) from rfl]
        refine wp_iload dX0_give_72 rfl rfl ?_
        refine wp_if_le (t := 106) dX0_give_74 rfl rfl (fun h74 => absurd h74 (nI_nle (by omega) (by omega))) (fun h74 => ?_)
        refine wp_aload_n dX0_give_77 rfl rfl ?_
        refine wn_getR dX0_give_78 fRX0_38 (o34 hn1) rfl rfl rfl ?_
        refine wp_iload dX0_give_81 rfl rfl ?_
        refine wp_iconst (v := 1) dX0_give_83 (by decide) rfl ?_
        refine wp_isub dX0_give_84 rfl ?_
        rw [nI_pred]
        refine wp_aload_n dX0_give_85 rfl rfl ?_
        refine wn_getR dX0_give_86 fRX0_38 (o34 hn1) rfl rfl rfl ?_
        refine wp_iload dX0_give_89 rfl rfl ?_
        refine wp_iconst (v := 1) dX0_give_91 (by decide) rfl ?_
        refine wp_isub dX0_give_92 rfl ?_
        rw [nI_pred]
        refine wn_iald dX0_give_93 (o36 hn1) rfl (nIx rfl (by omega)) (by show _ < max 1 (s1.2.2.1.2 n); rw [hm1]; omega) rfl ?_
        rw [hS.1]
        refine wp_if_ne (t := 101) dX0_give_94 rfl rfl (fun h94 => ?_) (fun h94 => ?_)
        · rw [show (if (a1 :: r).headD 0 = 0 then (1 : Int32) else 0) = 0 from if_neg h94]
          refine wp_iconst (v := 0) dX0_give_101 (by decide) rfl ?_
          refine wn_iast dX0_give_102 (o36 hn1) rfl (nIx rfl (by omega)) (by show _ < max 1 (s1.2.2.1.2 n); rw [hm1]; omega) rfl ?_
          refine wp_goto (t := 149) dX0_give_103 rfl ?_
          refine wp_iinc (l' := [_, _, _, _, _, some _, _]) (v := 1) dX0_give_149 rfl (by decide) rfl rfl ?_
          refine wp_goto (t := 6) dX0_give_152 rfl ?_
          rw [nI_1]
          exact ih hl (_ :: r) (sI s1 (36, n, 0) r.length _) _ (hF.pt (List.mem_singleton.mpr rfl)) (by rw [sI_row]; exact SP_push hS.2) hW.2 (by show r.length + 1 ≤ _; omega)
        · rw [show (if (a1 :: r).headD 0 = 0 then (1 : Int32) else 0) = 1 from if_pos h94]
          refine wp_iconst (v := 1) dX0_give_97 (by decide) rfl ?_
          refine wp_goto (t := 102) dX0_give_98 rfl ?_
          refine wn_iast dX0_give_102 (o36 hn1) rfl (nIx rfl (by omega)) (by show _ < max 1 (s1.2.2.1.2 n); rw [hm1]; omega) rfl ?_
          refine wp_goto (t := 149) dX0_give_103 rfl ?_
          refine wp_iinc (l' := [_, _, _, _, _, some _, _]) (v := 1) dX0_give_149 rfl (by decide) rfl rfl ?_
          refine wp_goto (t := 6) dX0_give_152 rfl ?_
          rw [nI_1]
          exact ih hl (_ :: r) (sI s1 (36, n, 0) r.length _) _ (hF.pt (List.mem_singleton.mpr rfl)) (by rw [sI_row]; exact SP_push hS.2) hW.2 (by show r.length + 1 ≤ _; omega)
    · have h0c : 0 ≤ c := Decidable.byContradiction fun z => by
        by_cases hq : c = -10
        · rw [hq] at h30; exact absurd h30 (by decide)
        · rw [if_neg z, if_neg hq] at hW
          simp only [Bool.and_eq_true, decide_eq_true_eq] at hW
          exact absurd (trC_sign hW.2.1 z hq).1 h30
      rw [if_pos h0c] at hW ⊢
      simp only [Bool.and_eq_true, decide_eq_true_eq] at hW
      refine wp_iload dX0_give_33 rfl rfl ?_
      refine wp_aload_n dX0_give_35 rfl rfl ?_
      refine wn_getR dX0_give_36 fRX0_38 (o34 hn1) rfl rfl rfl ?_
      refine wn_alen dX0_give_39 (o36 hn1) rfl rfl rfl ?_
      rw [show lnf s1.2.2.1 (36, n, 0) = max 1 m from by show max 1 (s1.2.2.1.2 n) = _; rw [hm1]]
      refine wp_icmp_ge (t := 64) dX0_give_40 rfl rfl (fun h40 => absurd ((nI_leI (by omega) (by omega)).mp h40) (by omega)) (fun h40 => ?_)
      refine wp_aload_n dX0_give_43 rfl rfl ?_
      refine wn_getR dX0_give_44 fRX0_38 (o34 hn1) rfl rfl rfl ?_
      refine wp_iload dX0_give_47 rfl rfl ?_
      refine wp_iload dX0_give_49 rfl rfl ?_
      refine wp_iload_n dX0_give_51 rfl rfl ?_
      refine wp_iload_n dX0_give_52 rfl rfl ?_
      refine wp_iload_n dX0_give_53 rfl rfl ?_
      refine wn_callS4d dX0_give_54 rRX0_41 (Nat.le_of_ble_eq_true rfl) rfl rfl rfl rfl (Nat.le_of_ble_eq_true rfl) rfl (c0_valueOf) ?_
      rw [trC_pos h0c, vof_eq h0c hW.2.1]
      refine wn_iast dX0_give_57 (o36 hn1) rfl (nIx rfl (by omega)) (by show _ < max 1 (s1.2.2.1.2 n); rw [hm1]; omega) rfl ?_
      refine wp_iinc (l' := [_, _, _, _, some _, _, _]) (v := 1) dX0_give_58 rfl (by decide) rfl rfl ?_
      refine wp_goto (t := 149) dX0_give_61 rfl ?_
      refine wp_iinc (l' := [_, _, _, _, _, some _, _]) (v := 1) dX0_give_149 rfl (by decide) rfl rfl ?_
      refine wp_goto (t := 6) dX0_give_152 rfl ?_
      rw [nI_1, nI_1]
      exact ih hl (_ :: stk) (sI s1 (36, n, 0) stk.length _) _ (hF.pt (List.mem_singleton.mpr rfl)) (by rw [sI_row]; exact SP_push hS) hW.2.2 (by show _ + 1 ≤ _ + 1; omega)
theorem c0_give {n m : Nat} {cf : Nat → Int32} {a b e : Int32} (hn : n < s.2.2.2.1) (hm : s.2.2.1.2 n = m) (hm96 : m ≤ 96) (hcf : ∀ k, k < m → s.1 (35, n, 0) k = trC (cf k)) (hW : wfd (cdl cf m) 0 = true) : Ca (d + 1) MX0_give [vR 34 n 0, vI a, vI b, vI e] (hN s) (Pv fun x t1 => x = (evl (fa3 a b e) (cdl cf m) []).headD 0 ∧ Fr [(36, n, 0)] s t1) := by
  change Wp _ _ 0 [some _, some _, some _, some _, none, none, none] [] _ _
  refine wp_iconst (v := 0) dX0_give_0 (by decide) rfl ?_
  refine wp_istore (l' := [_, _, _, _, some _, _, _]) dX0_give_1 rfl rfl ?_
  refine wp_iconst (v := 0) dX0_give_3 (by decide) rfl ?_
  refine wp_istore (l' := [_, _, _, _, _, some _, _]) dX0_give_4 rfl rfl ?_
  exact l0_give hn hm hm96 hcf 0 (Nat.zero_le _) [] s _ Fr.rf trivial hW (Nat.zero_le _)
end
