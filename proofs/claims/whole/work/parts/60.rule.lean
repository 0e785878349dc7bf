/-! THE PURE PART, 41: the public method rule -/
section
variable {d i : Nat}
def ruA (f : Fl) (w v : Int32) : Int32 := if w = 0 ∧ 0 ≤ v ∧ v ≤ 9 then f 4 else if w = 1 ∧ 0 ≤ v ∧ v ≤ 100 then f 5 else if w = 2 ∧ 0 ≤ v ∧ v ≤ 9 then f 3 else -1000000001
def ruF (f : Fl) (w v : Int32) : Fl := if w = 0 ∧ 0 ≤ v ∧ v ≤ 9 then upd f 4 v else if w = 1 ∧ 0 ≤ v ∧ v ≤ 100 then upd f 5 v else if w = 2 ∧ 0 ≤ v ∧ v ≤ 9 then upd f 3 v else f
theorem ru_0 {f : Fl} {w v : Int32} (hw : w = 0) (h : 0 ≤ v ∧ v ≤ 9) : ruA f w v = f 4 ∧ ruF f w v = upd f 4 v := ⟨if_pos ⟨hw, h⟩, if_pos ⟨hw, h⟩⟩
theorem ru_1 {f : Fl} {w v : Int32} (hw : w = 1) (h : 0 ≤ v ∧ v ≤ 100) : ruA f w v = f 5 ∧ ruF f w v = upd f 5 v := by
  have n0 : ¬ (w = 0 ∧ 0 ≤ v ∧ v ≤ 9) := fun z => absurd (hw.symm.trans z.1) (by decide)
  exact ⟨(if_neg n0).trans (if_pos ⟨hw, h⟩), (if_neg n0).trans (if_pos ⟨hw, h⟩)⟩
theorem ru_2 {f : Fl} {w v : Int32} (hw : w = 2) (h : 0 ≤ v ∧ v ≤ 9) : ruA f w v = f 3 ∧ ruF f w v = upd f 3 v := by
  have n0 : ¬ (w = 0 ∧ 0 ≤ v ∧ v ≤ 9) := fun z => absurd (hw.symm.trans z.1) (by decide)
  have n1 : ¬ (w = 1 ∧ 0 ≤ v ∧ v ≤ 100) := fun z => absurd (hw.symm.trans z.1) (by decide)
  exact ⟨(if_neg n0).trans ((if_neg n1).trans (if_pos ⟨hw, h⟩)), (if_neg n0).trans ((if_neg n1).trans (if_pos ⟨hw, h⟩))⟩
theorem ru_no {f : Fl} {w v : Int32} (n0 : ¬ (w = 0 ∧ 0 ≤ v ∧ v ≤ 9)) (n1 : ¬ (w = 1 ∧ 0 ≤ v ∧ v ≤ 100)) (n2 : ¬ (w = 2 ∧ 0 ≤ v ∧ v ≤ 9)) : ruA f w v = -1000000001 ∧ ruF f w v = f := ⟨(if_neg n0).trans ((if_neg n1).trans (if_neg n2)), (if_neg n0).trans ((if_neg n1).trans (if_neg n2))⟩
theorem i02 {w : Int32} (h : 0 ≤ w ∧ w ≤ 2) : w = 0 ∨ w = 1 ∨ w = 2 := by
  obtain ⟨k, hk, rfl⟩ := nI_of (Int32.not_lt.mpr h.1)
  have h2 := (nI_leI (b := 2) hk (by omega)).mp h.2
  have : k = 0 ∨ k = 1 ∨ k = 2 := by omega
  rcases this with rfl | rfl | rfl
  · exact Or.inl rfl
  · exact Or.inr (Or.inl rfl)
  · exact Or.inr (Or.inr rfl)
theorem RV.sk {s : Sn} {f : Fl} {c k q : Nat} {v : Int32} (h : RV s i f c) (hk : rc i k = ((11, i, 0), q)) (h45 : k < 45) (h1 : k ≠ 1) (h13 : (13 : Nat) ≠ q) : RV (sI s (11, i, 0) q v) i (upd f k v) c := by
  obtain ⟨hR, g13, g1, hc⟩ := h
  exact ⟨RC.pt (q := ((11, i, 0), q)) hR hk h1, by rw [sI_nk h13, mny_lo h1 h45]; exact g13, by rw [upd_ne (Ne.symm h1)]; exact g1, hc⟩
theorem c8_rule {s : Sn} {w v : Int32} : Ca (d + 1) MX8_rule [vR 40 0 0, vI w, vI v] (hN s) (Pv fun y t => y = ruA (s.1 (41, 0, 0)) w v ∧ t.1 (41, 0, 0) = ruF (s.1 (41, 0, 0)) w v ∧ Fr [(41, 0, 0)] s t) := by
  change Wp _ _ 0 [some _, some _, some _] [] _ _
  refine wp_iload_n dX8_rule_0 rfl rfl ?_
  refine wp_iconst (v := 0) dX8_rule_1 (by decide) rfl ?_
  refine wp_iconst (v := 2) dX8_rule_2 (by decide) rfl ?_
  refine wn_callS3d dX8_rule_3 rRX8_75 (Nat.le_of_ble_eq_true rfl) rfl rfl rfl (Nat.le_of_ble_eq_true rfl) rfl (c8_in) ?_
  refine wp_if_eq_b (t := 29) dX8_rule_6 rfl rfl (fun h6 => ?_) (fun h6 => ?_)
  · refine wp_ldc dX8_rule_29 kRX8_83 rfl ?_
    refine wp_iret dX8_rule_31 rfl rfl ?_
    obtain ⟨e1, e2⟩ := ru_no (f := (s.1 (41, 0, 0))) (w := w) (v := v) (fun z => h6 (by rw [z.1]; decide)) (fun z => h6 (by rw [z.1]; decide)) (fun z => h6 (by rw [z.1]; decide))
    exact ⟨_, _, rfl, rfl, e1.symm, e2.symm, Fr.rf⟩
  · rcases i02 h6 with rfl | rfl | rfl
    · refine wp_iload_n dX8_rule_9 rfl rfl ?_
      refine wp_iconst (v := 0) dX8_rule_10 (by decide) rfl ?_
      refine wp_iload_n dX8_rule_11 rfl rfl ?_
      refine wp_iconst (v := 1) dX8_rule_12 (by decide) rfl ?_
      refine wp_icmp_ne (t := 21) dX8_rule_13 rfl rfl (fun h13 => ?_) (fun h13 => absurd h13 (by decide))
      refine wp_bipush (v := 9) dX8_rule_21 (by decide) rfl ?_
      refine wn_callS3d dX8_rule_23 rRX8_75 (Nat.le_of_ble_eq_true rfl) rfl rfl rfl (Nat.le_of_ble_eq_true rfl) rfl (c8_in) ?_
      refine wp_if_ne_b (t := 32) dX8_rule_26 rfl rfl (fun h26 => ?_) (fun h26 => ?_)
      · refine wp_aload_n dX8_rule_32 rfl rfl ?_
        refine wp_iload_n dX8_rule_33 rfl rfl ?_
        refine wp_if_ne (t := 41) dX8_rule_34 rfl rfl (fun h34 => absurd rfl h34) (fun h34 => ?_)
        refine wp_iconst (v := 4) dX8_rule_37 (by decide) rfl ?_
        refine wp_goto (t := 51) dX8_rule_38 rfl ?_
        refine wp_iload_n dX8_rule_51 rfl rfl ?_
        refine wn_callV2d dX8_rule_52 rRX8_121 (rcv_of o40 rfl) (Nat.le_of_ble_eq_true rfl) rfl rfl (Nat.le_of_ble_eq_true rfl) rfl (c8_becomes (k := 4) (by decide)) ?_
        refine wp_iret dX8_rule_55 rfl rfl ?_
        obtain ⟨e1, e2⟩ := ru_0 (f := (s.1 (41, 0, 0))) (w := 0) (v := v) rfl h26
        refine ⟨_, _, rfl, rfl, e1.symm, ?_, Fr.rf.pt (by decide)⟩
        rw [sI_row]; exact e2.symm
      · refine wp_ldc dX8_rule_29 kRX8_83 rfl ?_
        refine wp_iret dX8_rule_31 rfl rfl ?_
        obtain ⟨e1, e2⟩ := ru_no (f := (s.1 (41, 0, 0))) (w := 0) (v := v) (fun z => h26 z.2) (fun z => absurd z.1 (by decide)) (fun z => absurd z.1 (by decide))
        exact ⟨_, _, rfl, rfl, e1.symm, e2.symm, Fr.rf⟩
    · refine wp_iload_n dX8_rule_9 rfl rfl ?_
      refine wp_iconst (v := 0) dX8_rule_10 (by decide) rfl ?_
      refine wp_iload_n dX8_rule_11 rfl rfl ?_
      refine wp_iconst (v := 1) dX8_rule_12 (by decide) rfl ?_
      refine wp_icmp_ne (t := 21) dX8_rule_13 rfl rfl (fun h13 => absurd rfl h13) (fun h13 => ?_)
      refine wp_bipush (v := 100) dX8_rule_16 (by decide) rfl ?_
      refine wp_goto (t := 23) dX8_rule_18 rfl ?_
      refine wn_callS3d dX8_rule_23 rRX8_75 (Nat.le_of_ble_eq_true rfl) rfl rfl rfl (Nat.le_of_ble_eq_true rfl) rfl (c8_in) ?_
      refine wp_if_ne_b (t := 32) dX8_rule_26 rfl rfl (fun h26 => ?_) (fun h26 => ?_)
      · refine wp_aload_n dX8_rule_32 rfl rfl ?_
        refine wp_iload_n dX8_rule_33 rfl rfl ?_
        refine wp_if_ne (t := 41) dX8_rule_34 rfl rfl (fun h34 => ?_) (fun h34 => absurd h34 (by decide))
        refine wp_iload_n dX8_rule_41 rfl rfl ?_
        refine wp_iconst (v := 1) dX8_rule_42 (by decide) rfl ?_
        refine wp_icmp_ne (t := 50) dX8_rule_43 rfl rfl (fun h43 => absurd rfl h43) (fun h43 => ?_)
        refine wp_iconst (v := 5) dX8_rule_46 (by decide) rfl ?_
        refine wp_goto (t := 51) dX8_rule_47 rfl ?_
        refine wp_iload_n dX8_rule_51 rfl rfl ?_
        refine wn_callV2d dX8_rule_52 rRX8_121 (rcv_of o40 rfl) (Nat.le_of_ble_eq_true rfl) rfl rfl (Nat.le_of_ble_eq_true rfl) rfl (c8_becomes (k := 5) (by decide)) ?_
        refine wp_iret dX8_rule_55 rfl rfl ?_
        obtain ⟨e1, e2⟩ := ru_1 (f := (s.1 (41, 0, 0))) (w := 1) (v := v) rfl h26
        refine ⟨_, _, rfl, rfl, e1.symm, ?_, Fr.rf.pt (by decide)⟩
        rw [sI_row]; exact e2.symm
      · refine wp_ldc dX8_rule_29 kRX8_83 rfl ?_
        refine wp_iret dX8_rule_31 rfl rfl ?_
        obtain ⟨e1, e2⟩ := ru_no (f := (s.1 (41, 0, 0))) (w := 1) (v := v) (fun z => absurd z.1 (by decide)) (fun z => h26 z.2) (fun z => absurd z.1 (by decide))
        exact ⟨_, _, rfl, rfl, e1.symm, e2.symm, Fr.rf⟩
    · refine wp_iload_n dX8_rule_9 rfl rfl ?_
      refine wp_iconst (v := 0) dX8_rule_10 (by decide) rfl ?_
      refine wp_iload_n dX8_rule_11 rfl rfl ?_
      refine wp_iconst (v := 1) dX8_rule_12 (by decide) rfl ?_
      refine wp_icmp_ne (t := 21) dX8_rule_13 rfl rfl (fun h13 => ?_) (fun h13 => absurd h13 (by decide))
      refine wp_bipush (v := 9) dX8_rule_21 (by decide) rfl ?_
      refine wn_callS3d dX8_rule_23 rRX8_75 (Nat.le_of_ble_eq_true rfl) rfl rfl rfl (Nat.le_of_ble_eq_true rfl) rfl (c8_in) ?_
      refine wp_if_ne_b (t := 32) dX8_rule_26 rfl rfl (fun h26 => ?_) (fun h26 => ?_)
      · refine wp_aload_n dX8_rule_32 rfl rfl ?_
        refine wp_iload_n dX8_rule_33 rfl rfl ?_
        refine wp_if_ne (t := 41) dX8_rule_34 rfl rfl (fun h34 => ?_) (fun h34 => absurd h34 (by decide))
        refine wp_iload_n dX8_rule_41 rfl rfl ?_
        refine wp_iconst (v := 1) dX8_rule_42 (by decide) rfl ?_
        refine wp_icmp_ne (t := 50) dX8_rule_43 rfl rfl (fun h43 => ?_) (fun h43 => absurd h43 (by decide))
        refine wp_iconst (v := 3) dX8_rule_50 (by decide) rfl ?_
        refine wp_iload_n dX8_rule_51 rfl rfl ?_
        refine wn_callV2d dX8_rule_52 rRX8_121 (rcv_of o40 rfl) (Nat.le_of_ble_eq_true rfl) rfl rfl (Nat.le_of_ble_eq_true rfl) rfl (c8_becomes (k := 3) (by decide)) ?_
        refine wp_iret dX8_rule_55 rfl rfl ?_
        obtain ⟨e1, e2⟩ := ru_2 (f := (s.1 (41, 0, 0))) (w := 2) (v := v) rfl h26
        refine ⟨_, _, rfl, rfl, e1.symm, ?_, Fr.rf.pt (by decide)⟩
        rw [sI_row]; exact e2.symm
      · refine wp_ldc dX8_rule_29 kRX8_83 rfl ?_
        refine wp_iret dX8_rule_31 rfl rfl ?_
        obtain ⟨e1, e2⟩ := ru_no (f := (s.1 (41, 0, 0))) (w := 2) (v := v) (fun z => absurd z.1 (by decide)) (fun z => absurd z.1 (by decide)) (fun z => h26 z.2)
        exact ⟨_, _, rfl, rfl, e1.symm, e2.symm, Fr.rf⟩
theorem c7_rule {s : Sn} {f : Fl} {c : Nat} {w v : Int32} (hV : RV s 0 f c) : Ca (d + 1) MX7_rule [vR 10 0 0, vI w, vI v] (hN s) (Pv fun y t => y = ruA f w v ∧ RV t 0 (ruF f w v) c ∧ FQ (XR 0) s t) := by
  change Wp _ _ 0 [some _, some _, some _, none] [] _ _
  refine wp_ldc dX7_rule_0 kRX7_68 rfl ?_
  refine wp_istore_n (l' := [_, _, _, some _]) dX7_rule_2 rfl rfl ?_
  refine wp_iload_n dX7_rule_3 rfl rfl ?_
  refine wp_if_ne (t := 36) dX7_rule_4 rfl rfl (fun h4 => ?_) (fun h4 => ?_)
  · refine wp_iload_n dX7_rule_36 rfl rfl ?_
    refine wp_iconst (v := 1) dX7_rule_37 (by decide) rfl ?_
    refine wp_icmp_ne (t := 70) dX7_rule_38 rfl rfl (fun h38 => ?_) (fun h38 => ?_)
    · refine wp_iload_n dX7_rule_70 rfl rfl ?_
      refine wp_iconst (v := 2) dX7_rule_71 (by decide) rfl ?_
      refine wp_icmp_ne (t := 101) dX7_rule_72 rfl rfl (fun h72 => ?_) (fun h72 => ?_)
      · refine wp_iload_n dX7_rule_101 rfl rfl ?_
        refine wp_iret dX7_rule_102 rfl rfl ?_
        obtain ⟨e1, e2⟩ := ru_no (f := f) (w := w) (v := v) (fun z => h4 z.1) (fun z => h38 z.1) (fun z => h72 z.1)
        exact ⟨_, _, rfl, rfl, e1.symm, by rw [e2]; exact hV, FQ.rf⟩
      · refine wp_iload_n dX7_rule_75 rfl rfl ?_
        refine wp_iconst (v := 0) dX7_rule_76 (by decide) rfl ?_
        refine wp_bipush (v := 9) dX7_rule_77 (by decide) rfl ?_
        refine wn_callS3d dX7_rule_79 rRX7_128 (Nat.le_of_ble_eq_true rfl) rfl rfl rfl (Nat.le_of_ble_eq_true rfl) rfl (c7_within) ?_
        refine wp_if_eq_b (t := 101) dX7_rule_82 rfl rfl (fun h82 => ?_) (fun h82 => ?_)
        · refine wp_iload_n dX7_rule_101 rfl rfl ?_
          refine wp_iret dX7_rule_102 rfl rfl ?_
          obtain ⟨e1, e2⟩ := ru_no (f := f) (w := w) (v := v) (fun z => h4 z.1) (fun z => h38 z.1) (fun z => h82 z.2)
          exact ⟨_, _, rfl, rfl, e1.symm, by rw [e2]; exact hV, FQ.rf⟩
        · refine wp_aload_n dX7_rule_85 rfl rfl ?_
          refine wn_getR dX7_rule_86 fRX7_10 o10 rfl rfl rfl ?_
          refine wn_getI dX7_rule_89 fRX7_140 (o11 (by decide)) rfl rfl ?_
          rw [show s.1 (11, 0, 0) 9 = f 3 from hV.1.sc 3 (by decide)]
          refine wp_istore_n (l' := [_, _, _, some _]) dX7_rule_92 rfl rfl ?_
          refine wp_aload_n dX7_rule_93 rfl rfl ?_
          refine wn_getR dX7_rule_94 fRX7_10 o10 rfl rfl rfl ?_
          refine wp_iload_n dX7_rule_97 rfl rfl ?_
          refine wn_putI dX7_rule_98 fRX7_140 (o11 (by decide)) rfl rfl rfl ?_
          refine wp_iload_n dX7_rule_101 rfl rfl ?_
          refine wp_iret dX7_rule_102 rfl rfl ?_
          obtain ⟨e1, e2⟩ := ru_2 (f := f) (w := w) (v := v) h72 h82
          exact ⟨_, _, rfl, rfl, e1.symm, by rw [e2]; exact hV.sk rfl (by decide) (by decide) (by decide), FQ.rf.pt (Or.inr ⟨rfl, Or.inl rfl⟩)⟩
    · refine wp_iload_n dX7_rule_41 rfl rfl ?_
      refine wp_iconst (v := 0) dX7_rule_42 (by decide) rfl ?_
      refine wp_bipush (v := 100) dX7_rule_43 (by decide) rfl ?_
      refine wn_callS3d dX7_rule_45 rRX7_128 (Nat.le_of_ble_eq_true rfl) rfl rfl rfl (Nat.le_of_ble_eq_true rfl) rfl (c7_within) ?_
      refine wp_if_eq_b (t := 70) dX7_rule_48 rfl rfl (fun h48 => ?_) (fun h48 => ?_)
      · refine wp_iload_n dX7_rule_70 rfl rfl ?_
        refine wp_iconst (v := 2) dX7_rule_71 (by decide) rfl ?_
        refine wp_icmp_ne (t := 101) dX7_rule_72 rfl rfl (fun h72 => ?_) (fun h72 => absurd (h38.symm.trans h72) (by decide))
        refine wp_iload_n dX7_rule_101 rfl rfl ?_
        refine wp_iret dX7_rule_102 rfl rfl ?_
        obtain ⟨e1, e2⟩ := ru_no (f := f) (w := w) (v := v) (fun z => h4 z.1) (fun z => h48 z.2) (fun z => h72 z.1)
        exact ⟨_, _, rfl, rfl, e1.symm, by rw [e2]; exact hV, FQ.rf⟩
      · refine wp_aload_n dX7_rule_51 rfl rfl ?_
        refine wn_getR dX7_rule_52 fRX7_10 o10 rfl rfl rfl ?_
        refine wn_getI dX7_rule_55 fRX7_109 (o11 (by decide)) rfl rfl ?_
        rw [show s.1 (11, 0, 0) 10 = f 5 from hV.1.sc 5 (by decide)]
        refine wp_istore_n (l' := [_, _, _, some _]) dX7_rule_58 rfl rfl ?_
        refine wp_aload_n dX7_rule_59 rfl rfl ?_
        refine wn_getR dX7_rule_60 fRX7_10 o10 rfl rfl rfl ?_
        refine wp_iload_n dX7_rule_63 rfl rfl ?_
        refine wn_putI dX7_rule_64 fRX7_109 (o11 (by decide)) rfl rfl rfl ?_
        refine wp_goto (t := 101) dX7_rule_67 rfl ?_
        refine wp_iload_n dX7_rule_101 rfl rfl ?_
        refine wp_iret dX7_rule_102 rfl rfl ?_
        obtain ⟨e1, e2⟩ := ru_1 (f := f) (w := w) (v := v) h38 h48
        exact ⟨_, _, rfl, rfl, e1.symm, by rw [e2]; exact hV.sk rfl (by decide) (by decide) (by decide), FQ.rf.pt (Or.inr ⟨rfl, Or.inl rfl⟩)⟩
  · refine wp_iload_n dX7_rule_7 rfl rfl ?_
    refine wp_iconst (v := 0) dX7_rule_8 (by decide) rfl ?_
    refine wp_bipush (v := 9) dX7_rule_9 (by decide) rfl ?_
    refine wn_callS3d dX7_rule_11 rRX7_128 (Nat.le_of_ble_eq_true rfl) rfl rfl rfl (Nat.le_of_ble_eq_true rfl) rfl (c7_within) ?_
    refine wp_if_eq_b (t := 36) dX7_rule_14 rfl rfl (fun h14 => ?_) (fun h14 => ?_)
    · refine wp_iload_n dX7_rule_36 rfl rfl ?_
      refine wp_iconst (v := 1) dX7_rule_37 (by decide) rfl ?_
      refine wp_icmp_ne (t := 70) dX7_rule_38 rfl rfl (fun h38 => ?_) (fun h38 => absurd (h4.symm.trans h38) (by decide))
      refine wp_iload_n dX7_rule_70 rfl rfl ?_
      refine wp_iconst (v := 2) dX7_rule_71 (by decide) rfl ?_
      refine wp_icmp_ne (t := 101) dX7_rule_72 rfl rfl (fun h72 => ?_) (fun h72 => absurd (h4.symm.trans h72) (by decide))
      refine wp_iload_n dX7_rule_101 rfl rfl ?_
      refine wp_iret dX7_rule_102 rfl rfl ?_
      obtain ⟨e1, e2⟩ := ru_no (f := f) (w := w) (v := v) (fun z => h14 z.2) (fun z => h38 z.1) (fun z => h72 z.1)
      exact ⟨_, _, rfl, rfl, e1.symm, by rw [e2]; exact hV, FQ.rf⟩
    · refine wp_aload_n dX7_rule_17 rfl rfl ?_
      refine wn_getR dX7_rule_18 fRX7_10 o10 rfl rfl rfl ?_
      refine wn_getI dX7_rule_21 fRX7_137 (o11 (by decide)) rfl rfl ?_
      rw [show s.1 (11, 0, 0) 11 = f 4 from hV.1.sc 4 (by decide)]
      refine wp_istore_n (l' := [_, _, _, some _]) dX7_rule_24 rfl rfl ?_
      refine wp_aload_n dX7_rule_25 rfl rfl ?_
      refine wn_getR dX7_rule_26 fRX7_10 o10 rfl rfl rfl ?_
      refine wp_iload_n dX7_rule_29 rfl rfl ?_
      refine wn_putI dX7_rule_30 fRX7_137 (o11 (by decide)) rfl rfl rfl ?_
      refine wp_goto (t := 101) dX7_rule_33 rfl ?_
      refine wp_iload_n dX7_rule_101 rfl rfl ?_
      refine wp_iret dX7_rule_102 rfl rfl ?_
      obtain ⟨e1, e2⟩ := ru_0 (f := f) (w := w) (v := v) h4 h14
      exact ⟨_, _, rfl, rfl, e1.symm, by rw [e2]; exact hV.sk rfl (by decide) (by decide) (by decide), FQ.rf.pt (Or.inr ⟨rfl, Or.inl rfl⟩)⟩
end
