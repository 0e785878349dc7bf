/-! THE PURE PART, 74: the class's reader takes a name -/
section
variable {d u : Nat}
theorem cJ_ix2 {s : Sn} {g : Fl} {b : Nat} (hu : u < 6) (hB : SB s u g) (hl : slen.getD u 0 < 97) (hl0 : 0 < slen.getD u 0) (hb : b < 128) : Ca (d + 2) MJ0_indexOf_7cf53 [vR 2 u 0, vI (nI b), vI 0] (hN s) (Pd (ixf (fun k => decide (g k = nI b)) (slen.getD u 0) 0) s) := by
  change Wp _ _ 0 [some _, some _, some _] [] _ _
  refine wp_aload_n dJ0_indexOf_7cf53_0 rfl rfl ?_
  refine wn_callV0d dJ0_indexOf_7cf53_1 rRJ0_492 (rcv_st hu) (Nat.le_of_ble_eq_true rfl)  (Nat.le_of_ble_eq_true rfl) rfl (cJ_isLatin1 hu hB.1) ?_
  refine wp_if_eq (t := 23) dJ0_indexOf_7cf53_4 rfl rfl (fun h4 => absurd h4 (by decide)) (fun h4 => ?_)
  refine wp_aload_n dJ0_indexOf_7cf53_7 rfl rfl ?_
  refine wp_getX dJ0_indexOf_7cf53_8 fRJ0_9 hu rfl ?_
  rw [gx1]
  refine wp_iload_n dJ0_indexOf_7cf53_11 rfl rfl ?_
  refine wp_iload_n dJ0_indexOf_7cf53_12 rfl rfl ?_
  refine wp_aload_n dJ0_indexOf_7cf53_13 rfl rfl ?_
  refine wn_callV0d dJ0_indexOf_7cf53_14 rRJ0_505 (rcv_st hu) (Nat.le_of_ble_eq_true rfl)  (Nat.le_of_ble_eq_true rfl) rfl (cJ_length hu hB.1) ?_
  refine wn_callS4d dJ0_indexOf_7cf53_17 rRJ0_637 (Nat.le_of_ble_eq_true rfl) rfl rfl rfl rfl (Nat.le_of_ble_eq_true rfl) rfl (cJ_ix1 hu hB hl hl0 hb) ?_
  refine wp_goto (t := 36) dJ0_indexOf_7cf53_20 rfl ?_
  refine wp_iret dJ0_indexOf_7cf53_36 rfl rfl ?_
  exact Pd.mk
theorem cJ_indexOf {s : Sn} {g : Fl} {b : Nat} (hu : u < 6) (hB : SB s u g) (hl : slen.getD u 0 < 97) (hl0 : 0 < slen.getD u 0) (hb : b < 128) : Ca (d + 3) MJ0_indexOf_0f7a4 [vR 2 u 0, vI (nI b)] (hN s) (Pd (ixf (fun k => decide (g k = nI b)) (slen.getD u 0) 0) s) := by
  change Wp _ _ 0 [some _, some _] [] _ _
  refine wp_aload_n dJ0_indexOf_0f7a4_0 rfl rfl ?_
  refine wp_iload_n dJ0_indexOf_0f7a4_1 rfl rfl ?_
  refine wp_iconst (v := 0) dJ0_indexOf_0f7a4_2 (by decide) rfl ?_
  refine wn_callV2d dJ0_indexOf_0f7a4_3 rRJ0_633 (rcv_st hu) (Nat.le_of_ble_eq_true rfl) rfl rfl (Nat.le_of_ble_eq_true rfl) rfl (cJ_ix2 hu hB hl hl0 hb) ?_
  refine wp_iret dJ0_indexOf_0f7a4_6 rfl rfl ?_
  exact Pd.mk
theorem ix_n3 (x : Int32) : ixf (fun k => decide (nm3 k = x)) 3 0 = nmO 0 x := by
  by_cases h0 : x = 102
  · subst h0; rfl
  by_cases h1 : x = 109
  · subst h1; rfl
  by_cases h2 : x = 114
  · subst h2; rfl
  unfold nmO
  rw [if_pos rfl, if_neg h0, if_neg h1, if_neg h2]
  show (if decide (nm3 0 = x) = true then nI 0 else if decide (nm3 1 = x) = true then nI 1 else if decide (nm3 2 = x) = true then nI 2 else -1) = -1
  rw [if_neg (show ¬ decide (nm3 0 = x) = true from fun z => h0 (of_decide_eq_true z).symm), if_neg (show ¬ decide (nm3 1 = x) = true from fun z => h1 (of_decide_eq_true z).symm), if_neg (show ¬ decide (nm3 2 = x) = true from fun z => h2 (of_decide_eq_true z).symm)]
theorem ix_n4 (x : Int32) : ixf (fun k => decide (nm4 k = x)) 2 0 = nmO 1 x := by
  by_cases h0 : x = 115
  · subst h0; rfl
  by_cases h1 : x = 119
  · subst h1; rfl
  unfold nmO
  rw [if_neg (by decide), if_pos rfl, if_neg h0, if_neg h1]
  show (if decide (nm4 0 = x) = true then nI 0 else if decide (nm4 1 = x) = true then nI 1 else -1) = -1
  rw [if_neg (show ¬ decide (nm4 0 = x) = true from fun z => h0 (of_decide_eq_true z).symm), if_neg (show ¬ decide (nm4 1 = x) = true from fun z => h1 (of_decide_eq_true z).symm)]
theorem ix_n5 (x : Int32) : ixf (fun k => decide (nm5 k = x)) 2 0 = nmO 2 x := by
  by_cases h0 : x = 108
  · subst h0; rfl
  by_cases h1 : x = 109
  · subst h1; rfl
  unfold nmO
  rw [if_neg (by decide), if_neg (by decide), if_neg h0, if_neg h1]
  show (if decide (nm5 0 = x) = true then nI 0 else if decide (nm5 1 = x) = true then nI 1 else -1) = -1
  rw [if_neg (show ¬ decide (nm5 0 = x) = true from fun z => h0 (of_decide_eq_true z).symm), if_neg (show ¬ decide (nm5 1 = x) = true from fun z => h1 (of_decide_eq_true z).symm)]
theorem c2_namesOf0 {s : Sn} : Ca d MX2_namesOf [vI 0] (hN s) (Pr fun r t => r = some (2, 3, 0) ∧ t = s) := by
  change Wp _ _ 0 [some _] [] _ _
  refine wp_iload_n dX2_namesOf_0 rfl rfl ?_
  refine wp_lsw2 (c0 := 0) (c1 := 1) (t0 := 28) (t1 := 31) (t := 34) dX2_namesOf_1 rfl (by decide) (by decide) (by decide) (by decide) (by decide) rfl rfl rfl (fun k1 => ?_) (fun k1 => ?_) (fun n1_0 n1_1 => ?_)
  · refine wp_ldcS dX2_namesOf_28 kRX2_145 rfl ?_
    refine wp_aret dX2_namesOf_30 rfl rfl ?_
    exact ⟨_, _, rfl, rfl, rfl, rfl⟩
  · refine wp_ldcS dX2_namesOf_31 kRX2_147 rfl ?_
    refine wp_aret dX2_namesOf_33 rfl rfl ?_
    exact absurd k1 (by decide)
  · refine wp_ldcS dX2_namesOf_34 kRX2_149 rfl ?_
    refine wp_aret dX2_namesOf_36 rfl rfl ?_
    exact absurd rfl n1_0
theorem c2_namesOf1 {s : Sn} : Ca d MX2_namesOf [vI 1] (hN s) (Pr fun r t => r = some (2, 4, 0) ∧ t = s) := by
  change Wp _ _ 0 [some _] [] _ _
  refine wp_iload_n dX2_namesOf_0 rfl rfl ?_
  refine wp_lsw2 (c0 := 0) (c1 := 1) (t0 := 28) (t1 := 31) (t := 34) dX2_namesOf_1 rfl (by decide) (by decide) (by decide) (by decide) (by decide) rfl rfl rfl (fun k1 => ?_) (fun k1 => ?_) (fun n1_0 n1_1 => ?_)
  · refine wp_ldcS dX2_namesOf_28 kRX2_145 rfl ?_
    refine wp_aret dX2_namesOf_30 rfl rfl ?_
    exact absurd k1 (by decide)
  · refine wp_ldcS dX2_namesOf_31 kRX2_147 rfl ?_
    refine wp_aret dX2_namesOf_33 rfl rfl ?_
    exact ⟨_, _, rfl, rfl, rfl, rfl⟩
  · refine wp_ldcS dX2_namesOf_34 kRX2_149 rfl ?_
    refine wp_aret dX2_namesOf_36 rfl rfl ?_
    exact absurd rfl n1_1
theorem c2_namesOf2 {s : Sn} : Ca d MX2_namesOf [vI 2] (hN s) (Pr fun r t => r = some (2, 5, 0) ∧ t = s) := by
  change Wp _ _ 0 [some _] [] _ _
  refine wp_iload_n dX2_namesOf_0 rfl rfl ?_
  refine wp_lsw2 (c0 := 0) (c1 := 1) (t0 := 28) (t1 := 31) (t := 34) dX2_namesOf_1 rfl (by decide) (by decide) (by decide) (by decide) (by decide) rfl rfl rfl (fun k1 => ?_) (fun k1 => ?_) (fun n1_0 n1_1 => ?_)
  · refine wp_ldcS dX2_namesOf_28 kRX2_145 rfl ?_
    refine wp_aret dX2_namesOf_30 rfl rfl ?_
    exact absurd k1 (by decide)
  · refine wp_ldcS dX2_namesOf_31 kRX2_147 rfl ?_
    refine wp_aret dX2_namesOf_33 rfl rfl ?_
    exact absurd k1 (by decide)
  · refine wp_ldcS dX2_namesOf_34 kRX2_149 rfl ?_
    refine wp_aret dX2_namesOf_36 rfl rfl ?_
    exact ⟨_, _, rfl, rfl, rfl, rfl⟩
theorem nmO_b : ∀ kk, kk < 3 → ∀ x : Int32, nmO (nI kk) x = -1 ∨ ∃ m, m < 3 ∧ nmO (nI kk) x = nI m := fun kk hk x => by
  rcases (by omega : kk = 0 ∨ kk = 1 ∨ kk = 2) with e | e | e <;> subst e
  · show (if x = 102 then (0 : Int32) else if x = 109 then 1 else if x = 114 then 2 else -1) = -1 ∨ ∃ m, m < 3 ∧ (if x = 102 then (0 : Int32) else if x = 109 then 1 else if x = 114 then 2 else -1) = nI m
    split
    · exact Or.inr ⟨0, by decide, rfl⟩
    · split
      · exact Or.inr ⟨1, by decide, rfl⟩
      · split
        · exact Or.inr ⟨2, by decide, rfl⟩
        · exact Or.inl rfl
  · show (if x = 115 then (0 : Int32) else if x = 119 then 1 else -1) = -1 ∨ ∃ m, m < 3 ∧ (if x = 115 then (0 : Int32) else if x = 119 then 1 else -1) = nI m
    split
    · exact Or.inr ⟨0, by decide, rfl⟩
    · split
      · exact Or.inr ⟨1, by decide, rfl⟩
      · exact Or.inl rfl
  · show (if x = 108 then (0 : Int32) else if x = 109 then 1 else -1) = -1 ∨ ∃ m, m < 3 ∧ (if x = 108 then (0 : Int32) else if x = 109 then 1 else -1) = nI m
    split
    · exact Or.inr ⟨0, by decide, rfl⟩
    · split
      · exact Or.inr ⟨1, by decide, rfl⟩
      · exact Or.inl rfl
theorem trC_n {kk : Nat} (hk : kk < 3) {x : Int32} (h : ¬ nmO (nI kk) x < 0) : trC (10000 + nmO (nI kk) x) = 10000 + nmO (nI kk) x := by
  rcases nmO_b kk hk x with e | ⟨m, hm, e⟩
  · rw [e] at h; exact absurd (by decide) h
  · rw [e, show (10000 : Int32) = nI 10000 from rfl, nI_add]; exact trC_p (by omega)
theorem c2_takesName {s : Sn} {z : PZ} {kk f e b : Nat} (e6 : s.1 (20, 0, 0) 6 = nI kk) (hk : kk < 3) (e12 : s.1 (20, 0, 0) 12 = nI f) (e13 : s.1 (20, 0, 0) 13 = nI e) (hfe : f ≤ e) (he : e ≤ 96) (hX : TT s) (hb : b < 128) (h : CR z s) (hc : zc z < 96) (hl1 : e - f = 1) (hq : ¬ nmO (nI kk) (nI b) < 0) : Ca (d + 4) MX2_takesName [vR 20 0 0, vI (nI b)] (hN s) (Pv fun y t => y = 1 ∧ CR (cdZ z (10000 + nmO (nI kk) (nI b))) t ∧ OR2 s t) := by
  change Wp _ _ 0 [some _, some _, none] [] _ _
  rcases (by omega : kk = 0 ∨ kk = 1 ∨ kk = 2) with ek | ek | ek <;> subst ek
  · refine wp_aload_n dX2_takesName_0 rfl rfl ?_
    refine wn_getI dX2_takesName_1 fRX2_35 o20 rfl rfl ?_
    rw [e6, show nI 0 = 0 from rfl]
    refine wn_callS1r dX2_takesName_4 rRX2_138 (Nat.le_of_ble_eq_true rfl) rfl (Nat.le_of_ble_eq_true rfl) rfl (c2_namesOf0) (fun x4 s4 hq4 => ?_)
    obtain ⟨e4, e4s⟩ := hq4
    subst e4
    rw [e4s]
    refine wp_iload_n dX2_takesName_7 rfl rfl ?_
    refine wp_i2c dX2_takesName_8 rfl ?_
    rw [chr1 b hb]
    refine wn_callV1d dX2_takesName_9 rRX2_142 (rcv_st (by decide : 3 < 6)) (Nat.le_of_ble_eq_true rfl) rfl (Nat.le_of_ble_eq_true rfl) rfl (cJ_indexOf (u := 3) (by decide) hX.2.2.2.1 (by rw [show slen.getD 3 0 = 3 from slT.2.2.2.1]; decide) (by rw [show slen.getD 3 0 = 3 from slT.2.2.2.1]; decide) hb) ?_
    rw [show slen.getD 3 0 = 3 from slT.2.2.2.1, ix_n3]
    refine wp_istore_n (l' := [_, _, some _]) dX2_takesName_12 rfl rfl ?_
    refine wp_aload_n dX2_takesName_13 rfl rfl ?_
    refine wn_getI dX2_takesName_14 fRX2_57 o20 rfl rfl ?_
    rw [e13]
    refine wp_aload_n dX2_takesName_17 rfl rfl ?_
    refine wn_getI dX2_takesName_18 fRX2_54 o20 rfl rfl ?_
    refine wp_isub dX2_takesName_21 rfl ?_
    rw [e12, nI_subn hfe]
    refine wp_iconst (v := 1) dX2_takesName_22 (by decide) rfl ?_
    refine wp_icmp_ne (t := 30) dX2_takesName_23 rfl rfl (fun h23 => absurd (by rw [hl1]; rfl) h23) (fun h23 => ?_)
    refine wp_iload_n dX2_takesName_26 rfl rfl ?_
    refine wp_if_ge (t := 32) dX2_takesName_27 rfl rfl (fun h27 => ?_) (fun h27 => absurd (Int32.not_lt.mp hq) h27)
    refine wp_aload_n dX2_takesName_32 rfl rfl ?_
    refine wp_sipush (v := 10000) dX2_takesName_33 (by decide) rfl ?_
    refine wp_iload_n dX2_takesName_36 rfl rfl ?_
    refine wp_iadd dX2_takesName_37 rfl ?_
    refine wn_callV1n dX2_takesName_38 rRX2_135 (rcv_of o20 rfl) (Nat.le_of_ble_eq_true rfl) rfl (Nat.le_of_ble_eq_true rfl) rfl (c2_addPiece h hc (trC_n (kk := 0) (by decide) hq)) (fun s38 hq38 => ?_)
    have h38 := hq38
    refine wp_iconst (v := 1) dX2_takesName_41 (by decide) rfl ?_
    refine wp_iret dX2_takesName_42 rfl (by decide) ?_
    exact ⟨_, _, rfl, rfl, rfl, h38⟩
  · refine wp_aload_n dX2_takesName_0 rfl rfl ?_
    refine wn_getI dX2_takesName_1 fRX2_35 o20 rfl rfl ?_
    rw [e6, show nI 1 = 1 from rfl]
    refine wn_callS1r dX2_takesName_4 rRX2_138 (Nat.le_of_ble_eq_true rfl) rfl (Nat.le_of_ble_eq_true rfl) rfl (c2_namesOf1) (fun x4 s4 hq4 => ?_)
    obtain ⟨e4, e4s⟩ := hq4
    subst e4
    rw [e4s]
    refine wp_iload_n dX2_takesName_7 rfl rfl ?_
    refine wp_i2c dX2_takesName_8 rfl ?_
    rw [chr1 b hb]
    refine wn_callV1d dX2_takesName_9 rRX2_142 (rcv_st (by decide : 4 < 6)) (Nat.le_of_ble_eq_true rfl) rfl (Nat.le_of_ble_eq_true rfl) rfl (cJ_indexOf (u := 4) (by decide) hX.2.2.2.2.1 (by rw [show slen.getD 4 0 = 2 from slT.2.2.2.2.1]; decide) (by rw [show slen.getD 4 0 = 2 from slT.2.2.2.2.1]; decide) hb) ?_
    rw [show slen.getD 4 0 = 2 from slT.2.2.2.2.1, ix_n4]
    refine wp_istore_n (l' := [_, _, some _]) dX2_takesName_12 rfl rfl ?_
    refine wp_aload_n dX2_takesName_13 rfl rfl ?_
    refine wn_getI dX2_takesName_14 fRX2_57 o20 rfl rfl ?_
    rw [e13]
    refine wp_aload_n dX2_takesName_17 rfl rfl ?_
    refine wn_getI dX2_takesName_18 fRX2_54 o20 rfl rfl ?_
    refine wp_isub dX2_takesName_21 rfl ?_
    rw [e12, nI_subn hfe]
    refine wp_iconst (v := 1) dX2_takesName_22 (by decide) rfl ?_
    refine wp_icmp_ne (t := 30) dX2_takesName_23 rfl rfl (fun h23 => absurd (by rw [hl1]; rfl) h23) (fun h23 => ?_)
    refine wp_iload_n dX2_takesName_26 rfl rfl ?_
    refine wp_if_ge (t := 32) dX2_takesName_27 rfl rfl (fun h27 => ?_) (fun h27 => absurd (Int32.not_lt.mp hq) h27)
    refine wp_aload_n dX2_takesName_32 rfl rfl ?_
    refine wp_sipush (v := 10000) dX2_takesName_33 (by decide) rfl ?_
    refine wp_iload_n dX2_takesName_36 rfl rfl ?_
    refine wp_iadd dX2_takesName_37 rfl ?_
    refine wn_callV1n dX2_takesName_38 rRX2_135 (rcv_of o20 rfl) (Nat.le_of_ble_eq_true rfl) rfl (Nat.le_of_ble_eq_true rfl) rfl (c2_addPiece h hc (trC_n (kk := 1) (by decide) hq)) (fun s38 hq38 => ?_)
    have h38 := hq38
    refine wp_iconst (v := 1) dX2_takesName_41 (by decide) rfl ?_
    refine wp_iret dX2_takesName_42 rfl (by decide) ?_
    exact ⟨_, _, rfl, rfl, rfl, h38⟩
  · refine wp_aload_n dX2_takesName_0 rfl rfl ?_
    refine wn_getI dX2_takesName_1 fRX2_35 o20 rfl rfl ?_
    rw [e6, show nI 2 = 2 from rfl]
    refine wn_callS1r dX2_takesName_4 rRX2_138 (Nat.le_of_ble_eq_true rfl) rfl (Nat.le_of_ble_eq_true rfl) rfl (c2_namesOf2) (fun x4 s4 hq4 => ?_)
    obtain ⟨e4, e4s⟩ := hq4
    subst e4
    rw [e4s]
    refine wp_iload_n dX2_takesName_7 rfl rfl ?_
    refine wp_i2c dX2_takesName_8 rfl ?_
    rw [chr1 b hb]
    refine wn_callV1d dX2_takesName_9 rRX2_142 (rcv_st (by decide : 5 < 6)) (Nat.le_of_ble_eq_true rfl) rfl (Nat.le_of_ble_eq_true rfl) rfl (cJ_indexOf (u := 5) (by decide) hX.2.2.2.2.2 (by rw [show slen.getD 5 0 = 2 from slT.2.2.2.2.2]; decide) (by rw [show slen.getD 5 0 = 2 from slT.2.2.2.2.2]; decide) hb) ?_
    rw [show slen.getD 5 0 = 2 from slT.2.2.2.2.2, ix_n5]
    refine wp_istore_n (l' := [_, _, some _]) dX2_takesName_12 rfl rfl ?_
    refine wp_aload_n dX2_takesName_13 rfl rfl ?_
    refine wn_getI dX2_takesName_14 fRX2_57 o20 rfl rfl ?_
    rw [e13]
    refine wp_aload_n dX2_takesName_17 rfl rfl ?_
    refine wn_getI dX2_takesName_18 fRX2_54 o20 rfl rfl ?_
    refine wp_isub dX2_takesName_21 rfl ?_
    rw [e12, nI_subn hfe]
    refine wp_iconst (v := 1) dX2_takesName_22 (by decide) rfl ?_
    refine wp_icmp_ne (t := 30) dX2_takesName_23 rfl rfl (fun h23 => absurd (by rw [hl1]; rfl) h23) (fun h23 => ?_)
    refine wp_iload_n dX2_takesName_26 rfl rfl ?_
    refine wp_if_ge (t := 32) dX2_takesName_27 rfl rfl (fun h27 => ?_) (fun h27 => absurd (Int32.not_lt.mp hq) h27)
    refine wp_aload_n dX2_takesName_32 rfl rfl ?_
    refine wp_sipush (v := 10000) dX2_takesName_33 (by decide) rfl ?_
    refine wp_iload_n dX2_takesName_36 rfl rfl ?_
    refine wp_iadd dX2_takesName_37 rfl ?_
    refine wn_callV1n dX2_takesName_38 rRX2_135 (rcv_of o20 rfl) (Nat.le_of_ble_eq_true rfl) rfl (Nat.le_of_ble_eq_true rfl) rfl (c2_addPiece h hc (trC_n (kk := 2) (by decide) hq)) (fun s38 hq38 => ?_)
    have h38 := hq38
    refine wp_iconst (v := 1) dX2_takesName_41 (by decide) rfl ?_
    refine wp_iret dX2_takesName_42 rfl (by decide) ?_
    exact ⟨_, _, rfl, rfl, rfl, h38⟩
theorem c2_takesNameN {s : Sn} {kk f e b : Nat} (e6 : s.1 (20, 0, 0) 6 = nI kk) (hk : kk < 3) (e12 : s.1 (20, 0, 0) 12 = nI f) (e13 : s.1 (20, 0, 0) 13 = nI e) (hfe : f ≤ e) (he : e ≤ 96) (hX : TT s) (hb : b < 128) (hno : ¬ (e - f = 1 ∧ ¬ nmO (nI kk) (nI b) < 0)) : Ca (d + 4) MX2_takesName [vR 20 0 0, vI (nI b)] (hN s) (Pd 0 s) := by
  change Wp _ _ 0 [some _, some _, none] [] _ _
  rcases (by omega : kk = 0 ∨ kk = 1 ∨ kk = 2) with ek | ek | ek <;> subst ek
  · refine wp_aload_n dX2_takesName_0 rfl rfl ?_
    refine wn_getI dX2_takesName_1 fRX2_35 o20 rfl rfl ?_
    rw [e6, show nI 0 = 0 from rfl]
    refine wn_callS1r dX2_takesName_4 rRX2_138 (Nat.le_of_ble_eq_true rfl) rfl (Nat.le_of_ble_eq_true rfl) rfl (c2_namesOf0) (fun x4 s4 hq4 => ?_)
    obtain ⟨e4, e4s⟩ := hq4
    subst e4
    rw [e4s]
    refine wp_iload_n dX2_takesName_7 rfl rfl ?_
    refine wp_i2c dX2_takesName_8 rfl ?_
    rw [chr1 b hb]
    refine wn_callV1d dX2_takesName_9 rRX2_142 (rcv_st (by decide : 3 < 6)) (Nat.le_of_ble_eq_true rfl) rfl (Nat.le_of_ble_eq_true rfl) rfl (cJ_indexOf (u := 3) (by decide) hX.2.2.2.1 (by rw [show slen.getD 3 0 = 3 from slT.2.2.2.1]; decide) (by rw [show slen.getD 3 0 = 3 from slT.2.2.2.1]; decide) hb) ?_
    rw [show slen.getD 3 0 = 3 from slT.2.2.2.1, ix_n3]
    refine wp_istore_n (l' := [_, _, some _]) dX2_takesName_12 rfl rfl ?_
    refine wp_aload_n dX2_takesName_13 rfl rfl ?_
    refine wn_getI dX2_takesName_14 fRX2_57 o20 rfl rfl ?_
    rw [e13]
    refine wp_aload_n dX2_takesName_17 rfl rfl ?_
    refine wn_getI dX2_takesName_18 fRX2_54 o20 rfl rfl ?_
    refine wp_isub dX2_takesName_21 rfl ?_
    rw [e12, nI_subn hfe]
    refine wp_iconst (v := 1) dX2_takesName_22 (by decide) rfl ?_
    refine wp_icmp_ne (t := 30) dX2_takesName_23 rfl rfl (fun h23 => ?_) (fun h23 => ?_)
    · refine wp_iconst (v := 0) dX2_takesName_30 (by decide) rfl ?_
      refine wp_iret dX2_takesName_31 rfl (by decide) ?_
      exact Pd.mk
    · refine wp_iload_n dX2_takesName_26 rfl rfl ?_
      refine wp_if_ge (t := 32) dX2_takesName_27 rfl rfl (fun h27 => (hno ⟨(nI_eq (b := 1) (by omega) (by decide)).mp h23, Int32.not_lt.mpr h27⟩).elim) (fun h27 => ?_)
      refine wp_iconst (v := 0) dX2_takesName_30 (by decide) rfl ?_
      refine wp_iret dX2_takesName_31 rfl (by decide) ?_
      exact Pd.mk
  · refine wp_aload_n dX2_takesName_0 rfl rfl ?_
    refine wn_getI dX2_takesName_1 fRX2_35 o20 rfl rfl ?_
    rw [e6, show nI 1 = 1 from rfl]
    refine wn_callS1r dX2_takesName_4 rRX2_138 (Nat.le_of_ble_eq_true rfl) rfl (Nat.le_of_ble_eq_true rfl) rfl (c2_namesOf1) (fun x4 s4 hq4 => ?_)
    obtain ⟨e4, e4s⟩ := hq4
    subst e4
    rw [e4s]
    refine wp_iload_n dX2_takesName_7 rfl rfl ?_
    refine wp_i2c dX2_takesName_8 rfl ?_
    rw [chr1 b hb]
    refine wn_callV1d dX2_takesName_9 rRX2_142 (rcv_st (by decide : 4 < 6)) (Nat.le_of_ble_eq_true rfl) rfl (Nat.le_of_ble_eq_true rfl) rfl (cJ_indexOf (u := 4) (by decide) hX.2.2.2.2.1 (by rw [show slen.getD 4 0 = 2 from slT.2.2.2.2.1]; decide) (by rw [show slen.getD 4 0 = 2 from slT.2.2.2.2.1]; decide) hb) ?_
    rw [show slen.getD 4 0 = 2 from slT.2.2.2.2.1, ix_n4]
    refine wp_istore_n (l' := [_, _, some _]) dX2_takesName_12 rfl rfl ?_
    refine wp_aload_n dX2_takesName_13 rfl rfl ?_
    refine wn_getI dX2_takesName_14 fRX2_57 o20 rfl rfl ?_
    rw [e13]
    refine wp_aload_n dX2_takesName_17 rfl rfl ?_
    refine wn_getI dX2_takesName_18 fRX2_54 o20 rfl rfl ?_
    refine wp_isub dX2_takesName_21 rfl ?_
    rw [e12, nI_subn hfe]
    refine wp_iconst (v := 1) dX2_takesName_22 (by decide) rfl ?_
    refine wp_icmp_ne (t := 30) dX2_takesName_23 rfl rfl (fun h23 => ?_) (fun h23 => ?_)
    · refine wp_iconst (v := 0) dX2_takesName_30 (by decide) rfl ?_
      refine wp_iret dX2_takesName_31 rfl (by decide) ?_
      exact Pd.mk
    · refine wp_iload_n dX2_takesName_26 rfl rfl ?_
      refine wp_if_ge (t := 32) dX2_takesName_27 rfl rfl (fun h27 => (hno ⟨(nI_eq (b := 1) (by omega) (by decide)).mp h23, Int32.not_lt.mpr h27⟩).elim) (fun h27 => ?_)
      refine wp_iconst (v := 0) dX2_takesName_30 (by decide) rfl ?_
      refine wp_iret dX2_takesName_31 rfl (by decide) ?_
      exact Pd.mk
  · refine wp_aload_n dX2_takesName_0 rfl rfl ?_
    refine wn_getI dX2_takesName_1 fRX2_35 o20 rfl rfl ?_
    rw [e6, show nI 2 = 2 from rfl]
    refine wn_callS1r dX2_takesName_4 rRX2_138 (Nat.le_of_ble_eq_true rfl) rfl (Nat.le_of_ble_eq_true rfl) rfl (c2_namesOf2) (fun x4 s4 hq4 => ?_)
    obtain ⟨e4, e4s⟩ := hq4
    subst e4
    rw [e4s]
    refine wp_iload_n dX2_takesName_7 rfl rfl ?_
    refine wp_i2c dX2_takesName_8 rfl ?_
    rw [chr1 b hb]
    refine wn_callV1d dX2_takesName_9 rRX2_142 (rcv_st (by decide : 5 < 6)) (Nat.le_of_ble_eq_true rfl) rfl (Nat.le_of_ble_eq_true rfl) rfl (cJ_indexOf (u := 5) (by decide) hX.2.2.2.2.2 (by rw [show slen.getD 5 0 = 2 from slT.2.2.2.2.2]; decide) (by rw [show slen.getD 5 0 = 2 from slT.2.2.2.2.2]; decide) hb) ?_
    rw [show slen.getD 5 0 = 2 from slT.2.2.2.2.2, ix_n5]
    refine wp_istore_n (l' := [_, _, some _]) dX2_takesName_12 rfl rfl ?_
    refine wp_aload_n dX2_takesName_13 rfl rfl ?_
    refine wn_getI dX2_takesName_14 fRX2_57 o20 rfl rfl ?_
    rw [e13]
    refine wp_aload_n dX2_takesName_17 rfl rfl ?_
    refine wn_getI dX2_takesName_18 fRX2_54 o20 rfl rfl ?_
    refine wp_isub dX2_takesName_21 rfl ?_
    rw [e12, nI_subn hfe]
    refine wp_iconst (v := 1) dX2_takesName_22 (by decide) rfl ?_
    refine wp_icmp_ne (t := 30) dX2_takesName_23 rfl rfl (fun h23 => ?_) (fun h23 => ?_)
    · refine wp_iconst (v := 0) dX2_takesName_30 (by decide) rfl ?_
      refine wp_iret dX2_takesName_31 rfl (by decide) ?_
      exact Pd.mk
    · refine wp_iload_n dX2_takesName_26 rfl rfl ?_
      refine wp_if_ge (t := 32) dX2_takesName_27 rfl rfl (fun h27 => (hno ⟨(nI_eq (b := 1) (by omega) (by decide)).mp h23, Int32.not_lt.mpr h27⟩).elim) (fun h27 => ?_)
      refine wp_iconst (v := 0) dX2_takesName_30 (by decide) rfl ?_
      refine wp_iret dX2_takesName_31 rfl (by decide) ?_
      exact Pd.mk
end
