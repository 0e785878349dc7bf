/-! THE PURE PART, 54: lay, ask, item, rest -/
section
variable {d i j a : Nat}
abbrev F4 : Type := Fl × Fl × Fl × Fl
/-- the class's slots stand for the reference's: things, what they are, worths, cells -/
def SL (s : Sn) (T : F4) : Prop := ∀ a, a < 5 → s.1 (30, a, 0) 2 = T.1 a ∧ (T.1 a = 1 → ∃ k, k ≤ 5 ∧ T.2.1 a = nI k ∧ s.1 (31, a, 0) 0 = nI k ∧ wor (nI k) (s.1 (31, a, 0) 2) = T.2.2.1 a) ∧ (T.1 a = 2 → s.1 (32, a, 0) 2 = T.2.1 a ∧ ∀ k, k < 24 → s.1 (33, a, 0) k = T.2.2.2 (24 * a + k)) ∧ (T.1 a = 3 → s.1 (30, a, 0) 3 = T.2.1 a)
/-- a sheet in a slot has at most 24 places -/
def HQ (T : F4) : Prop := ∀ a, a < 5 → T.1 a = 2 → ∃ n, n ≤ 24 ∧ T.2.1 a = nI n
def XL : Rf → Prop := fun r => r.1 = 30 ∨ r.1 = 31 ∨ r.1 = 32 ∨ r.1 = 33
def fnd (h y : Int32) : Int32 := if h = 0 then -1000000011 else if h = y then 0 else -1000000012
theorem c5_finding {s : Sn} {y : Int32} (ha : a < 5) : Ca d MX5_findingFor [vR 30 a 0, vI y] (hN s) (Pd (fnd (s.1 (30, a, 0) 2) y) s) := by
  change Wp _ _ 0 [some _, some _] [] _ _
  refine wp_aload_n dX5_findingFor_0 rfl rfl ?_
  refine wn_getI dX5_findingFor_1 fRX5_25 (o30 ha) rfl rfl ?_
  refine wp_if_ne (t := 10) dX5_findingFor_4 rfl rfl (fun h4 => ?_) (fun h4 => ?_)
  · refine wp_aload_n dX5_findingFor_10 rfl rfl ?_
    refine wn_getI dX5_findingFor_11 fRX5_25 (o30 ha) rfl rfl ?_
    refine wp_iload_n dX5_findingFor_14 rfl rfl ?_
    refine wp_icmp_ne (t := 22) dX5_findingFor_15 rfl rfl (fun h15 => ?_) (fun h15 => ?_)
    · refine wp_ldc dX5_findingFor_22 kRX5_33 rfl ?_
      refine wp_iret dX5_findingFor_24 rfl rfl ?_
      refine ⟨_, _, rfl, rfl, ?_, rfl⟩
      unfold fnd
      rw [if_neg h4, if_neg h15]
    · refine wp_iconst (v := 0) dX5_findingFor_18 (by decide) rfl ?_
      refine wp_goto (t := 24) dX5_findingFor_19 rfl ?_
      refine wp_iret dX5_findingFor_24 rfl rfl ?_
      refine ⟨_, _, rfl, rfl, ?_, rfl⟩
      unfold fnd
      rw [if_neg h4, if_pos h15]
  · refine wp_ldc dX5_findingFor_7 kRX5_32 rfl ?_
    refine wp_iret dX5_findingFor_9 rfl rfl ?_
    refine ⟨_, _, rfl, rfl, ?_, rfl⟩
    unfold fnd
    rw [if_pos h4]
theorem fnd_0 {h y : Int32} (hf : fnd h y = 0) : ¬ h = 0 ∧ h = y := by
  unfold fnd at hf
  by_cases e : h = 0
  · rw [if_pos e] at hf; exact absurd hf (by decide)
  · rw [if_neg e] at hf
    by_cases e2 : h = y
    · exact ⟨e, e2⟩
    · rw [if_neg e2] at hf; exact absurd hf (by decide)
theorem fnd_n {h y z : Int32} (hf : ¬ fnd h y = 0) (hz : h = y → ¬ h = 0 → False) : fnd h y = if h = 0 then -1000000011 else -1000000012 := by
  unfold fnd
  by_cases e : h = 0
  · rw [if_pos e, if_pos e]
  · rw [if_neg e, if_neg e, if_neg (fun e2 => hz e2 e)]
def akA (T : F4) (x y : Int32) : Int32 := if (0 ≤ x ∧ x ≤ 4) ∧ (0 ≤ y ∧ y ≤ 5) then (if T.1 x.toNatClampNeg = 0 then -1000000011 else if T.1 x.toNatClampNeg = 1 ∧ und (T.2.1 x.toNatClampNeg) y then T.2.2.1 x.toNatClampNeg else -1000000012) else -1000000001
theorem akA_y {T : F4} {y : Int32} (ha : a < 5) (h : (0 ≤ nI a ∧ nI a ≤ 4) ∧ (0 ≤ y ∧ y ≤ 5)) : akA T (nI a) y = if T.1 a = 0 then -1000000011 else if T.1 a = 1 ∧ und (T.2.1 a) y then T.2.2.1 a else -1000000012 := by
  unfold akA
  rw [if_pos h, nI_clamp (by omega)]
theorem c8_ask {s : Sn} {x y : Int32} : Ca (d + 2) MX8_ask [vR 40 0 0, vI x, vI y] (hN s) (Pd (akA (s.1 (41, 15, 0), s.1 (41, 16, 0), s.1 (41, 17, 0), s.1 (41, 18, 0)) x y) s) := by
  change Wp _ _ 0 [some _, some _, some _] [] _ _
  refine wp_iload_n dX8_ask_0 rfl rfl ?_
  refine wn_callS1d dX8_ask_1 rRX8_248 (Nat.le_of_ble_eq_true rfl) rfl (Nat.le_of_ble_eq_true rfl) rfl (c8_isSlot) ?_
  refine wp_if_eq_b (t := 16) dX8_ask_4 rfl rfl (fun h4 => ?_) (fun h4 => ?_)
  · refine wp_ldc dX8_ask_16 kRX8_83 rfl ?_
    refine wp_iret dX8_ask_18 rfl rfl ?_
    exact ⟨_, _, rfl, rfl, (if_neg (fun z => h4 z.1)).symm, rfl⟩
  · refine wp_iload_n dX8_ask_7 rfl rfl ?_
    refine wp_iconst (v := 0) dX8_ask_8 (by decide) rfl ?_
    refine wp_iconst (v := 5) dX8_ask_9 (by decide) rfl ?_
    refine wn_callS3d dX8_ask_10 rRX8_75 (Nat.le_of_ble_eq_true rfl) rfl rfl rfl (Nat.le_of_ble_eq_true rfl) rfl (c8_in) ?_
    refine wp_if_ne_b (t := 19) dX8_ask_13 rfl rfl (fun h13 => ?_) (fun h13 => ?_)
    · obtain ⟨a, ha, rfl⟩ := slt h4
      refine wp_aload_n dX8_ask_19 rfl rfl ?_
      refine wn_getR dX8_ask_20 fRX8_57 o40 rfl rfl rfl ?_
      refine wp_iload_n dX8_ask_23 rfl rfl ?_
      refine wn_iald dX8_ask_24 (o41 15 rfl) rfl (nIx rfl (by omega)) (show a < 5 from ha) rfl ?_
      refine wp_if_ne (t := 31) dX8_ask_25 rfl rfl (fun h25 => ?_) (fun h25 => ?_)
      · refine wp_aload_n dX8_ask_31 rfl rfl ?_
        refine wn_getR dX8_ask_32 fRX8_57 o40 rfl rfl rfl ?_
        refine wp_iload_n dX8_ask_35 rfl rfl ?_
        refine wn_iald dX8_ask_36 (o41 15 rfl) rfl (nIx rfl (by omega)) (show a < 5 from ha) rfl ?_
        refine wp_iconst (v := 1) dX8_ask_37 (by decide) rfl ?_
        refine wp_icmp_ne (t := 63) dX8_ask_38 rfl rfl (fun h38 => ?_) (fun h38 => ?_)
        · refine wp_ldc dX8_ask_63 kRX8_120 rfl ?_
          refine wp_iret dX8_ask_65 rfl rfl ?_
          refine ⟨_, _, rfl, rfl, ?_, rfl⟩
          rw [akA_y ha ⟨h4, h13⟩]
          rw [if_neg h25, if_neg (fun z => h38 z.1)]
        · refine wp_aload_n dX8_ask_41 rfl rfl ?_
          refine wn_getR dX8_ask_42 fRX8_60 o40 rfl rfl rfl ?_
          refine wp_iload_n dX8_ask_45 rfl rfl ?_
          refine wn_iald dX8_ask_46 (o41 16 rfl) rfl (nIx rfl (by omega)) (show a < 5 from ha) rfl ?_
          refine wp_iload_n dX8_ask_47 rfl rfl ?_
          refine wn_callS2d dX8_ask_48 rRX8_116 (Nat.le_of_ble_eq_true rfl) rfl rfl (Nat.le_of_ble_eq_true rfl) rfl (c8_isUnder) ?_
          refine wp_if_eq_b (t := 63) dX8_ask_51 rfl rfl (fun h51 => ?_) (fun h51 => ?_)
          · refine wp_ldc dX8_ask_63 kRX8_120 rfl ?_
            refine wp_iret dX8_ask_65 rfl rfl ?_
            refine ⟨_, _, rfl, rfl, ?_, rfl⟩
            rw [akA_y ha ⟨h4, h13⟩]
            rw [if_neg h25, if_neg (fun z => h51 z.2)]
          · refine wp_aload_n dX8_ask_54 rfl rfl ?_
            refine wn_getR dX8_ask_55 fRX8_63 o40 rfl rfl rfl ?_
            refine wp_iload_n dX8_ask_58 rfl rfl ?_
            refine wn_iald dX8_ask_59 (o41 17 rfl) rfl (nIx rfl (by omega)) (show a < 5 from ha) rfl ?_
            refine wp_goto (t := 65) dX8_ask_60 rfl ?_
            refine wp_iret dX8_ask_65 rfl rfl ?_
            refine ⟨_, _, rfl, rfl, ?_, rfl⟩
            rw [akA_y ha ⟨h4, h13⟩]
            rw [if_neg h25, if_pos ⟨h38, h51⟩]
      · refine wp_ldc dX8_ask_28 kRX8_171 rfl ?_
        refine wp_iret dX8_ask_30 rfl rfl ?_
        refine ⟨_, _, rfl, rfl, ?_, rfl⟩
        rw [akA_y ha ⟨h4, h13⟩]
        rw [if_pos h25]
    · refine wp_ldc dX8_ask_16 kRX8_83 rfl ?_
      refine wp_iret dX8_ask_18 rfl rfl ?_
      exact ⟨_, _, rfl, rfl, (if_neg (fun z => h13 z.2)).symm, rfl⟩
theorem c7_ask {s : Sn} {T : F4} {x y : Int32} (h : SL s T) (hA : AB s) : Ca (d + 3) MX7_ask [vR 10 0 0, vI x, vI y] (hN s) (Pd (akA T x y) s) := by
  change Wp _ _ 0 [some _, some _, some _, none] [] _ _
  refine wp_iload_n dX7_ask_0 rfl rfl ?_
  refine wn_callS1d dX7_ask_1 rRX7_293 (Nat.le_of_ble_eq_true rfl) rfl (Nat.le_of_ble_eq_true rfl) rfl (c7_isSlot) ?_
  refine wp_if_eq_b (t := 14) dX7_ask_4 rfl rfl (fun h4 => ?_) (fun h4 => ?_)
  · refine wp_ldc dX7_ask_14 kRX7_68 rfl ?_
    refine wp_iret dX7_ask_16 rfl rfl ?_
    exact ⟨_, _, rfl, rfl, (if_neg (fun z => h4 z.1)).symm, rfl⟩
  · refine wp_iload_n dX7_ask_7 rfl rfl ?_
    refine wn_callS1d dX7_ask_8 rRX7_58 (Nat.le_of_ble_eq_true rfl) rfl (Nat.le_of_ble_eq_true rfl) rfl (c7_isKind) ?_
    refine wp_if_ne_b (t := 17) dX7_ask_11 rfl rfl (fun h11 => ?_) (fun h11 => ?_)
    · obtain ⟨a, ha, rfl⟩ := slt h4
      obtain ⟨p1, p2, p3, p4⟩ := h a ha
      refine wp_aload_n dX7_ask_17 rfl rfl ?_
      refine wn_getR dX7_ask_18 fRX7_40 o10 rfl rfl rfl ?_
      refine wp_iload_n dX7_ask_21 rfl rfl ?_
      refine wn_aald26 dX7_ask_22 (nIx rfl (by omega)) ha rfl ?_
      refine wp_iconst (v := 1) dX7_ask_23 (by decide) rfl ?_
      refine wn_callV1d dX7_ask_24 rRX7_316 (rcv_of (o30 ha) rfl) (Nat.le_of_ble_eq_true rfl) rfl (Nat.le_of_ble_eq_true rfl) rfl (c5_finding ha) ?_
      rw [p1]
      refine wp_istore_n (l' := [_, _, _, some _]) dX7_ask_27 rfl rfl ?_
      refine wp_iload_n dX7_ask_28 rfl rfl ?_
      refine wp_if_eq (t := 34) dX7_ask_29 rfl rfl (fun h29 => ?_) (fun h29 => ?_)
      · obtain ⟨hn0, hn1⟩ := fnd_0 h29
        obtain ⟨k, hk5, hk1, hk2, hk3⟩ := p2 hn1
        refine wp_aload_n dX7_ask_34 rfl rfl ?_
        refine wn_getR dX7_ask_35 fRX7_40 o10 rfl rfl rfl ?_
        refine wp_iload_n dX7_ask_38 rfl rfl ?_
        refine wn_aald26 dX7_ask_39 (nIx rfl (by omega)) ha rfl ?_
        refine wn_getR dX7_ask_40 fRX7_299 (o30 ha) rfl rfl rfl ?_
        refine wp_iload_n dX7_ask_43 rfl rfl ?_
        refine wn_callV1d dX7_ask_44 rRX7_120 (rcv_of (o31 ha) rfl) (Nat.le_of_ble_eq_true rfl) rfl (Nat.le_of_ble_eq_true rfl) rfl (c1_isOfs ha hA hk5 hk2) ?_
        refine wp_if_eq_b (t := 65) dX7_ask_47 rfl rfl (fun h47 => ?_) (fun h47 => ?_)
        · refine wp_ldc dX7_ask_65 kRX7_123 rfl ?_
          refine wp_iret dX7_ask_67 rfl rfl ?_
          refine ⟨_, _, rfl, rfl, ?_, rfl⟩
          rw [akA_y ha ⟨h4, h11⟩]
          rw [if_neg hn0, if_neg (fun z => h47 (by rw [← hk1]; exact z.2))]
        · refine wp_aload_n dX7_ask_50 rfl rfl ?_
          refine wn_getR dX7_ask_51 fRX7_40 o10 rfl rfl rfl ?_
          refine wp_iload_n dX7_ask_54 rfl rfl ?_
          refine wn_aald26 dX7_ask_55 (nIx rfl (by omega)) ha rfl ?_
          refine wn_getR dX7_ask_56 fRX7_299 (o30 ha) rfl rfl rfl ?_
          refine wn_callV0d dX7_ask_59 rRX7_116 (rcv_of (o31 ha) rfl) (Nat.le_of_ble_eq_true rfl)  (Nat.le_of_ble_eq_true rfl) rfl (c1_worths ha) ?_
          refine wp_goto (t := 67) dX7_ask_62 rfl ?_
          refine wp_iret dX7_ask_67 rfl rfl ?_
          refine ⟨_, _, rfl, rfl, ?_, rfl⟩
          rw [akA_y ha ⟨h4, h11⟩]
          rw [if_neg hn0, if_pos ⟨hn1, by rw [hk1]; exact h47⟩]
          rw [hk2, wrc_eq]
          exact hk3
      · refine wp_iload_n dX7_ask_32 rfl rfl ?_
        refine wp_iret dX7_ask_33 rfl rfl ?_
        refine ⟨_, _, rfl, rfl, ?_, rfl⟩
        rw [akA_y ha ⟨h4, h11⟩]
        unfold fnd at h29 ⊢
        by_cases e : T.1 a = 0
        · rw [if_pos e, if_pos e]
        · rw [if_neg e, if_neg e]
          rw [if_neg e] at h29
          by_cases e2 : T.1 a = 1
          · rw [if_pos e2] at h29; exact absurd rfl h29
          · rw [if_neg e2, if_neg (fun z => e2 z.1)]
    · refine wp_ldc dX7_ask_14 kRX7_68 rfl ?_
      refine wp_iret dX7_ask_16 rfl rfl ?_
      exact ⟨_, _, rfl, rfl, (if_neg (fun z => h11 z.2)).symm, rfl⟩
def itA (T : F4) (x p : Int32) : Int32 := if 0 ≤ x ∧ x ≤ 4 then (if T.1 x.toNatClampNeg = 0 then -1000000011 else if ¬ T.1 x.toNatClampNeg = 2 then -1000000012 else if ¬ (0 ≤ p ∧ p ≤ T.2.1 x.toNatClampNeg - 1) then -1000000013 else if T.2.2.2 (24 * x.toNatClampNeg + p.toNatClampNeg) = -1000000005 then -1000000012 else T.2.2.2 (24 * x.toNatClampNeg + p.toNatClampNeg)) else -1000000001
theorem itA_y {T : F4} {p : Int32} (ha : a < 5) (h : 0 ≤ nI a ∧ nI a ≤ 4) : itA T (nI a) p = if T.1 a = 0 then -1000000011 else if ¬ T.1 a = 2 then -1000000012 else if ¬ (0 ≤ p ∧ p ≤ T.2.1 a - 1) then -1000000013 else if T.2.2.2 (24 * a + p.toNatClampNeg) = -1000000005 then -1000000012 else T.2.2.2 (24 * a + p.toNatClampNeg) := by
  unfold itA
  rw [if_pos h, nI_clamp (by omega)]
theorem c8_item {s : Sn} {x p : Int32} (hQ : HQ (s.1 (41, 15, 0), s.1 (41, 16, 0), s.1 (41, 17, 0), s.1 (41, 18, 0))) : Ca (d + 2) MX8_item [vR 40 0 0, vI x, vI p] (hN s) (Pd (itA (s.1 (41, 15, 0), s.1 (41, 16, 0), s.1 (41, 17, 0), s.1 (41, 18, 0)) x p) s) := by
  change Wp _ _ 0 [some _, some _, some _, none] [] _ _
  refine wp_iload_n dX8_item_0 rfl rfl ?_
  refine wn_callS1d dX8_item_1 rRX8_248 (Nat.le_of_ble_eq_true rfl) rfl (Nat.le_of_ble_eq_true rfl) rfl (c8_isSlot) ?_
  refine wp_if_ne_b (t := 10) dX8_item_4 rfl rfl (fun h4 => ?_) (fun h4 => ?_)
  · obtain ⟨a, ha, rfl⟩ := slt h4
    refine wp_aload_n dX8_item_10 rfl rfl ?_
    refine wn_getR dX8_item_11 fRX8_57 o40 rfl rfl rfl ?_
    refine wp_iload_n dX8_item_14 rfl rfl ?_
    refine wn_iald dX8_item_15 (o41 15 rfl) rfl (nIx rfl (by omega)) (show a < 5 from ha) rfl ?_
    refine wp_if_ne (t := 22) dX8_item_16 rfl rfl (fun h16 => ?_) (fun h16 => ?_)
    · refine wp_aload_n dX8_item_22 rfl rfl ?_
      refine wn_getR dX8_item_23 fRX8_57 o40 rfl rfl rfl ?_
      refine wp_iload_n dX8_item_26 rfl rfl ?_
      refine wn_iald dX8_item_27 (o41 15 rfl) rfl (nIx rfl (by omega)) (show a < 5 from ha) rfl ?_
      refine wp_iconst (v := 2) dX8_item_28 (by decide) rfl ?_
      refine wp_icmp_eq (t := 35) dX8_item_29 rfl rfl (fun h29 => ?_) (fun h29 => ?_)
      · refine wp_iload_n dX8_item_35 rfl rfl ?_
        refine wp_iconst (v := 0) dX8_item_36 (by decide) rfl ?_
        refine wp_aload_n dX8_item_37 rfl rfl ?_
        refine wn_getR dX8_item_38 fRX8_60 o40 rfl rfl rfl ?_
        refine wp_iload_n dX8_item_41 rfl rfl ?_
        refine wn_iald dX8_item_42 (o41 16 rfl) rfl (nIx rfl (by omega)) (show a < 5 from ha) rfl ?_
        refine wp_iconst (v := 1) dX8_item_43 (by decide) rfl ?_
        refine wp_isub dX8_item_44 rfl ?_
        refine wn_callS3d dX8_item_45 rRX8_75 (Nat.le_of_ble_eq_true rfl) rfl rfl rfl (Nat.le_of_ble_eq_true rfl) rfl (c8_in) ?_
        refine wp_if_ne_b (t := 54) dX8_item_48 rfl rfl (fun h48 => ?_) (fun h48 => ?_)
        · obtain ⟨n, hn, hsn⟩ := hQ a ha h29
          obtain ⟨k, hk, rfl⟩ := plc hn hsn h48
          refine wp_aload_n dX8_item_54 rfl rfl ?_
          refine wn_getR dX8_item_55 fRX8_66 o40 rfl rfl rfl ?_
          refine wp_bipush (v := 24) dX8_item_58 (by decide) rfl ?_
          refine wp_iload_n dX8_item_60 rfl rfl ?_
          refine wp_imul dX8_item_61 rfl ?_
          refine wp_iload_n dX8_item_62 rfl rfl ?_
          refine wp_iadd dX8_item_63 rfl ?_
          refine wn_iald dX8_item_64 (o41 18 rfl) rfl (nIx ix_24 (by omega)) (by show _ < 120; omega) rfl ?_
          refine wp_istore_n (l' := [_, _, _, some _]) dX8_item_65 rfl rfl ?_
          refine wp_iload_n dX8_item_66 rfl rfl ?_
          refine wp_ldc dX8_item_67 kRX8_149 rfl ?_
          refine wp_icmp_ne (t := 77) dX8_item_69 rfl rfl (fun h69 => ?_) (fun h69 => ?_)
          · refine wp_iload_n dX8_item_77 rfl rfl ?_
            refine wp_iret dX8_item_78 rfl rfl ?_
            refine ⟨_, _, rfl, rfl, ?_, rfl⟩
            rw [itA_y ha h4]
            rw [if_neg h16, if_neg (fun z => z h29), if_neg (fun z => z h48), nI_clamp (by omega), if_neg h69]
          · refine wp_ldc dX8_item_72 kRX8_120 rfl ?_
            refine wp_goto (t := 78) dX8_item_74 rfl ?_
            refine wp_iret dX8_item_78 rfl rfl ?_
            refine ⟨_, _, rfl, rfl, ?_, rfl⟩
            rw [itA_y ha h4]
            rw [if_neg h16, if_neg (fun z => z h29), if_neg (fun z => z h48), nI_clamp (by omega), if_pos h69]
        · refine wp_ldc dX8_item_51 kRX8_245 rfl ?_
          refine wp_iret dX8_item_53 rfl rfl ?_
          refine ⟨_, _, rfl, rfl, ?_, rfl⟩
          rw [itA_y ha h4]
          rw [if_neg h16, if_neg (fun z => z h29), if_pos h48]
      · refine wp_ldc dX8_item_32 kRX8_120 rfl ?_
        refine wp_iret dX8_item_34 rfl rfl ?_
        refine ⟨_, _, rfl, rfl, ?_, rfl⟩
        rw [itA_y ha h4]
        rw [if_neg h16, if_pos h29]
    · refine wp_ldc dX8_item_19 kRX8_171 rfl ?_
      refine wp_iret dX8_item_21 rfl rfl ?_
      refine ⟨_, _, rfl, rfl, ?_, rfl⟩
      rw [itA_y ha h4]
      rw [if_pos h16]
  · refine wp_ldc dX8_item_7 kRX8_83 rfl ?_
    refine wp_iret dX8_item_9 rfl rfl ?_
    exact ⟨_, _, rfl, rfl, (if_neg h4).symm, rfl⟩
theorem c7_item {s : Sn} {T : F4} {x p : Int32} (h : SL s T) (hQ : HQ T) : Ca (d + 2) MX7_item [vR 10 0 0, vI x, vI p] (hN s) (Pd (itA T x p) s) := by
  change Wp _ _ 0 [some _, some _, some _, none, none] [] _ _
  refine wp_iload_n dX7_item_0 rfl rfl ?_
  refine wn_callS1d dX7_item_1 rRX7_293 (Nat.le_of_ble_eq_true rfl) rfl (Nat.le_of_ble_eq_true rfl) rfl (c7_isSlot) ?_
  refine wp_if_ne_b (t := 10) dX7_item_4 rfl rfl (fun h4 => ?_) (fun h4 => ?_)
  · obtain ⟨a, ha, rfl⟩ := slt h4
    obtain ⟨p1, p2, p3, p4⟩ := h a ha
    refine wp_aload_n dX7_item_10 rfl rfl ?_
    refine wn_getR dX7_item_11 fRX7_40 o10 rfl rfl rfl ?_
    refine wp_iload_n dX7_item_14 rfl rfl ?_
    refine wn_aald26 dX7_item_15 (nIx rfl (by omega)) ha rfl ?_
    refine wp_iconst (v := 2) dX7_item_16 (by decide) rfl ?_
    refine wn_callV1d dX7_item_17 rRX7_316 (rcv_of (o30 ha) rfl) (Nat.le_of_ble_eq_true rfl) rfl (Nat.le_of_ble_eq_true rfl) rfl (c5_finding ha) ?_
    rw [p1]
    refine wp_istore_n (l' := [_, _, _, some _, _]) dX7_item_20 rfl rfl ?_
    refine wp_iload_n dX7_item_21 rfl rfl ?_
    refine wp_if_eq (t := 27) dX7_item_22 rfl rfl (fun h22 => ?_) (fun h22 => ?_)
    · obtain ⟨hn0, hn1⟩ := fnd_0 h22
      obtain ⟨n, hn, hsn⟩ := hQ a ha hn1
      obtain ⟨q1, q2⟩ := p3 hn1
      refine wp_aload_n dX7_item_27 rfl rfl ?_
      refine wn_getR dX7_item_28 fRX7_40 o10 rfl rfl rfl ?_
      refine wp_iload_n dX7_item_31 rfl rfl ?_
      refine wn_aald26 dX7_item_32 (nIx rfl (by omega)) ha rfl ?_
      refine wn_getR dX7_item_33 fRX7_306 (o30 ha) rfl rfl rfl ?_
      refine wp_astore (l' := [_, _, _, _, some _]) dX7_item_36 rfl rfl ?_
      refine wp_aload dX7_item_38 rfl rfl ?_
      refine wp_iload_n dX7_item_40 rfl rfl ?_
      refine wn_callV1d dX7_item_41 rRX7_265 (rcv_of (o32 ha) rfl) (Nat.le_of_ble_eq_true rfl) rfl (Nat.le_of_ble_eq_true rfl) rfl (c4_hasPlaces ha) ?_
      rw [q1, hsn]
      refine wp_if_ne_b (t := 51) dX7_item_44 rfl rfl (fun h44 => ?_) (fun h44 => ?_)
      · have hz := (plc2 hn rfl).mp h44
        obtain ⟨k, hk, rfl⟩ := plc hn rfl hz
        refine wp_aload dX7_item_51 rfl rfl ?_
        refine wp_iload_n dX7_item_53 rfl rfl ?_
        refine wn_callV1d dX7_item_54 rRX7_277 (rcv_of (o32 ha) rfl) (Nat.le_of_ble_eq_true rfl) rfl (Nat.le_of_ble_eq_true rfl) rfl (c4_hasNumbers ha (by omega)) ?_
        rw [q1, hsn, q2 k (by omega)]
        refine wp_if_eq_b (t := 70) dX7_item_57 rfl rfl (fun h57 => ?_) (fun h57 => ?_)
        · refine wp_ldc dX7_item_70 kRX7_123 rfl ?_
          refine wp_iret dX7_item_72 rfl rfl ?_
          refine ⟨_, _, rfl, rfl, ?_, rfl⟩
          rw [itA_y ha h4]
          rw [if_neg hn0, if_neg (fun z => z hn1), if_neg (fun z => z (by rw [hsn]; exact hz)), nI_clamp (by omega), if_pos (Decidable.not_not.mp (fun z => h57 ⟨(nI_ltI (by omega) (by omega)).mpr hk, z⟩))]
        · refine wp_aload dX7_item_60 rfl rfl ?_
          refine wn_getR dX7_item_62 fRX7_272 (o32 ha) rfl rfl rfl ?_
          refine wp_iload_n dX7_item_65 rfl rfl ?_
          refine wn_iald dX7_item_66 (o33 ha) rfl (nIx rfl (by omega)) (show k < 24 by omega) rfl ?_
          rw [q2 k (by omega)]
          refine wp_goto (t := 72) dX7_item_67 rfl ?_
          refine wp_iret dX7_item_72 rfl rfl ?_
          refine ⟨_, _, rfl, rfl, ?_, rfl⟩
          rw [itA_y ha h4]
          rw [if_neg hn0, if_neg (fun z => z hn1), if_neg (fun z => z (by rw [hsn]; exact hz)), nI_clamp (by omega), if_neg h57.2]
      · refine wp_ldcw dX7_item_47 kRX7_268 rfl ?_
        refine wp_iret dX7_item_50 rfl rfl ?_
        refine ⟨_, _, rfl, rfl, ?_, rfl⟩
        rw [itA_y ha h4]
        rw [if_neg hn0, if_neg (fun z => z hn1), if_pos (fun z => h44 ((plc2 hn rfl).mpr (by rw [hsn] at z; exact z)))]
    · refine wp_iload_n dX7_item_25 rfl rfl ?_
      refine wp_iret dX7_item_26 rfl rfl ?_
      refine ⟨_, _, rfl, rfl, ?_, rfl⟩
      rw [itA_y ha h4]
      unfold fnd at h22 ⊢
      by_cases e : T.1 a = 0
      · rw [if_pos e, if_pos e]
      · rw [if_neg e, if_neg e]
        rw [if_neg e] at h22
        by_cases e2 : T.1 a = 2
        · rw [if_pos e2] at h22; exact absurd rfl h22
        · rw [if_neg e2, if_pos e2]
  · refine wp_ldc dX7_item_7 kRX7_68 rfl ?_
    refine wp_iret dX7_item_9 rfl rfl ?_
    exact ⟨_, _, rfl, rfl, (if_neg h4).symm, rfl⟩
theorem rm_m1 (x : Int32) : rm x (-1) = 0 := by
  have e : x / -1 = -x := by
    apply Int32.toInt_inj.mp
    rw [Int32.toInt_div, show (-1 : Int32).toInt = -1 from rfl, Int.tdiv_neg, Int.tdiv_one, Int32.toInt_neg]
  unfold rm
  rw [e, Int32.neg_mul, Int32.mul_neg, Int32.mul_one, Int32.neg_neg, Int32.sub_self]
def rtA (T : F4) (x n : Int32) : Int32 := if 0 ≤ x ∧ x ≤ 4 then (if T.1 x.toNatClampNeg = 0 then -1000000011 else if ¬ T.1 x.toNatClampNeg = 3 then -1000000012 else if n = 0 then -1000000002 else rm (T.2.1 x.toNatClampNeg) n) else -1000000001
theorem rtA_y {T : F4} {n : Int32} (ha : a < 5) (h : 0 ≤ nI a ∧ nI a ≤ 4) : rtA T (nI a) n = if T.1 a = 0 then -1000000011 else if ¬ T.1 a = 3 then -1000000012 else if n = 0 then -1000000002 else rm (T.2.1 a) n := by
  unfold rtA
  rw [if_pos h, nI_clamp (by omega)]
theorem c8_rest {s : Sn} {x n : Int32} : Ca (d + 2) MX8_rest [vR 40 0 0, vI x, vI n] (hN s) (Pd (rtA (s.1 (41, 15, 0), s.1 (41, 16, 0), s.1 (41, 17, 0), s.1 (41, 18, 0)) x n) s) := by
  change Wp _ _ 0 [some _, some _, some _] [] _ _
  refine wp_iload_n dX8_rest_0 rfl rfl ?_
  refine wn_callS1d dX8_rest_1 rRX8_248 (Nat.le_of_ble_eq_true rfl) rfl (Nat.le_of_ble_eq_true rfl) rfl (c8_isSlot) ?_
  refine wp_if_ne_b (t := 10) dX8_rest_4 rfl rfl (fun h4 => ?_) (fun h4 => ?_)
  · obtain ⟨a, ha, rfl⟩ := slt h4
    refine wp_aload_n dX8_rest_10 rfl rfl ?_
    refine wn_getR dX8_rest_11 fRX8_57 o40 rfl rfl rfl ?_
    refine wp_iload_n dX8_rest_14 rfl rfl ?_
    refine wn_iald dX8_rest_15 (o41 15 rfl) rfl (nIx rfl (by omega)) (show a < 5 from ha) rfl ?_
    refine wp_if_ne (t := 22) dX8_rest_16 rfl rfl (fun h16 => ?_) (fun h16 => ?_)
    · refine wp_aload_n dX8_rest_22 rfl rfl ?_
      refine wn_getR dX8_rest_23 fRX8_57 o40 rfl rfl rfl ?_
      refine wp_iload_n dX8_rest_26 rfl rfl ?_
      refine wn_iald dX8_rest_27 (o41 15 rfl) rfl (nIx rfl (by omega)) (show a < 5 from ha) rfl ?_
      refine wp_iconst (v := 3) dX8_rest_28 (by decide) rfl ?_
      refine wp_icmp_eq (t := 35) dX8_rest_29 rfl rfl (fun h29 => ?_) (fun h29 => ?_)
      · refine wp_iload_n dX8_rest_35 rfl rfl ?_
        refine wp_if_ne (t := 44) dX8_rest_36 rfl rfl (fun h36 => ?_) (fun h36 => ?_)
        · refine wp_iload_n dX8_rest_44 rfl rfl ?_
          refine wp_iconst (v := (-1)) dX8_rest_45 (by decide) rfl ?_
          refine wp_icmp_ne (t := 53) dX8_rest_46 rfl rfl (fun h46 => ?_) (fun h46 => ?_)
          · refine wp_aload_n dX8_rest_53 rfl rfl ?_
            refine wn_getR dX8_rest_54 fRX8_60 o40 rfl rfl rfl ?_
            refine wp_iload_n dX8_rest_57 rfl rfl ?_
            refine wn_iald dX8_rest_58 (o41 16 rfl) rfl (nIx rfl (by omega)) (show a < 5 from ha) rfl ?_
            refine wp_iload_n dX8_rest_59 rfl rfl ?_
            refine wp_irem dX8_rest_60 h36 rfl ?_
            refine wp_iret dX8_rest_61 rfl rfl ?_
            refine ⟨_, _, rfl, rfl, ?_, rfl⟩
            rw [rtA_y ha h4]
            rw [if_neg h16, if_neg (fun z => z h29), if_neg h36]
            rfl
          · refine wp_iconst (v := 0) dX8_rest_49 (by decide) rfl ?_
            refine wp_goto (t := 61) dX8_rest_50 rfl ?_
            refine wp_iret dX8_rest_61 rfl rfl ?_
            refine ⟨_, _, rfl, rfl, ?_, rfl⟩
            rw [rtA_y ha h4]
            rw [if_neg h16, if_neg (fun z => z h29), if_neg h36, h46, rm_m1]
        · refine wp_ldc dX8_rest_39 kRX8_127 rfl ?_
          refine wp_goto (t := 61) dX8_rest_41 rfl ?_
          refine wp_iret dX8_rest_61 rfl rfl ?_
          refine ⟨_, _, rfl, rfl, ?_, rfl⟩
          rw [rtA_y ha h4]
          rw [if_neg h16, if_neg (fun z => z h29), if_pos h36]
      · refine wp_ldc dX8_rest_32 kRX8_120 rfl ?_
        refine wp_iret dX8_rest_34 rfl rfl ?_
        refine ⟨_, _, rfl, rfl, ?_, rfl⟩
        rw [rtA_y ha h4]
        rw [if_neg h16, if_pos h29]
    · refine wp_ldc dX8_rest_19 kRX8_171 rfl ?_
      refine wp_iret dX8_rest_21 rfl rfl ?_
      refine ⟨_, _, rfl, rfl, ?_, rfl⟩
      rw [rtA_y ha h4]
      rw [if_pos h16]
  · refine wp_ldc dX8_rest_7 kRX8_83 rfl ?_
    refine wp_iret dX8_rest_9 rfl rfl ?_
    exact ⟨_, _, rfl, rfl, (if_neg h4).symm, rfl⟩
theorem c7_rest {s : Sn} {T : F4} {x n : Int32} (h : SL s T) : Ca (d + 2) MX7_rest [vR 10 0 0, vI x, vI n] (hN s) (Pd (rtA T x n) s) := by
  change Wp _ _ 0 [some _, some _, some _, none] [] _ _
  refine wp_iload_n dX7_rest_0 rfl rfl ?_
  refine wn_callS1d dX7_rest_1 rRX7_293 (Nat.le_of_ble_eq_true rfl) rfl (Nat.le_of_ble_eq_true rfl) rfl (c7_isSlot) ?_
  refine wp_if_ne_b (t := 10) dX7_rest_4 rfl rfl (fun h4 => ?_) (fun h4 => ?_)
  · obtain ⟨a, ha, rfl⟩ := slt h4
    obtain ⟨p1, p2, p3, p4⟩ := h a ha
    refine wp_aload_n dX7_rest_10 rfl rfl ?_
    refine wn_getR dX7_rest_11 fRX7_40 o10 rfl rfl rfl ?_
    refine wp_iload_n dX7_rest_14 rfl rfl ?_
    refine wn_aald26 dX7_rest_15 (nIx rfl (by omega)) ha rfl ?_
    refine wp_iconst (v := 3) dX7_rest_16 (by decide) rfl ?_
    refine wn_callV1d dX7_rest_17 rRX7_316 (rcv_of (o30 ha) rfl) (Nat.le_of_ble_eq_true rfl) rfl (Nat.le_of_ble_eq_true rfl) rfl (c5_finding ha) ?_
    rw [p1]
    refine wp_istore_n (l' := [_, _, _, some _]) dX7_rest_20 rfl rfl ?_
    refine wp_iload_n dX7_rest_21 rfl rfl ?_
    refine wp_if_eq (t := 27) dX7_rest_22 rfl rfl (fun h22 => ?_) (fun h22 => ?_)
    · obtain ⟨hn0, hn1⟩ := fnd_0 h22
      refine wp_iload_n dX7_rest_27 rfl rfl ?_
      refine wp_if_ne (t := 36) dX7_rest_28 rfl rfl (fun h28 => ?_) (fun h28 => ?_)
      · refine wp_aload_n dX7_rest_36 rfl rfl ?_
        refine wn_getR dX7_rest_37 fRX7_40 o10 rfl rfl rfl ?_
        refine wp_iload_n dX7_rest_40 rfl rfl ?_
        refine wn_aald26 dX7_rest_41 (nIx rfl (by omega)) ha rfl ?_
        refine wn_getI dX7_rest_42 fRX7_313 (o30 ha) rfl rfl ?_
        rw [p4 hn1]
        refine wp_iload_n dX7_rest_45 rfl rfl ?_
        refine wp_irem dX7_rest_46 h28 rfl ?_
        refine wp_iret dX7_rest_47 rfl rfl ?_
        refine ⟨_, _, rfl, rfl, ?_, rfl⟩
        rw [rtA_y ha h4]
        rw [if_neg hn0, if_neg (fun z => z hn1), if_neg h28]
        rfl
      · refine wp_ldc dX7_rest_31 kRX7_127 rfl ?_
        refine wp_goto (t := 47) dX7_rest_33 rfl ?_
        refine wp_iret dX7_rest_47 rfl rfl ?_
        refine ⟨_, _, rfl, rfl, ?_, rfl⟩
        rw [rtA_y ha h4]
        rw [if_neg hn0, if_neg (fun z => z hn1), if_pos h28]
    · refine wp_iload_n dX7_rest_25 rfl rfl ?_
      refine wp_iret dX7_rest_26 rfl rfl ?_
      refine ⟨_, _, rfl, rfl, ?_, rfl⟩
      rw [rtA_y ha h4]
      unfold fnd at h22 ⊢
      by_cases e : T.1 a = 0
      · rw [if_pos e, if_pos e]
      · rw [if_neg e, if_neg e]
        rw [if_neg e] at h22
        by_cases e2 : T.1 a = 3
        · rw [if_pos e2] at h22; exact absurd rfl h22
        · rw [if_neg e2, if_pos e2]
  · refine wp_ldc dX7_rest_7 kRX7_68 rfl ?_
    refine wp_iret dX7_rest_9 rfl rfl ?_
    exact ⟨_, _, rfl, rfl, (if_neg h4).symm, rfl⟩
end
