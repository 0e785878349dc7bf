/-! THE PURE PART, 49: as, lays, told -/
section
variable {d i j : Nat}
abbrev und (k y : Int32) : Prop := y = 0 ∨ k = y ∨ (y = 1 ∧ k = 3) ∨ (y = 2 ∧ k = 4)
/-- which kind stands above which -/
def AB (s : Sn) : Prop := s.1 (1, 0, 0) 0 = -1 ∧ s.1 (1, 0, 0) 1 = 0 ∧ s.1 (1, 0, 0) 2 = 0 ∧ s.1 (1, 0, 0) 3 = 1 ∧ s.1 (1, 0, 0) 4 = 2 ∧ s.1 (1, 0, 0) 5 = 0
theorem k5 {k : Nat} (h : k ≤ 5) : k = 0 ∨ k = 1 ∨ k = 2 ∨ k = 3 ∨ k = 4 ∨ k = 5 := by omega
theorem c1_isOf {s : Sn} {k : Nat} {y : Int32} (hi : i < 4) (hj : j < 12) (hA : AB s) (hk : k ≤ 5) (hK : s.1 (12, i, j) 0 = nI k) : Ca (d + 2) MX1_isOf [vR 12 i j, vI y] (hN s) (Pd (bI (und (nI k) y)) s) := by
  change Wp _ _ 0 [some _, some _, none, none] [] _ _
  obtain rfl | rfl | rfl | rfl | rfl | rfl := k5 hk
  · refine wp_aload_n dX1_isOf_0 rfl rfl ?_
    refine wn_getI dX1_isOf_1 fRX1_9 (o12 hi hj) rfl rfl ?_
    rw [hK]
    refine wp_istore_n (l' := [_, _, some _, _]) dX1_isOf_4 rfl rfl ?_
    refine wp_iconst (v := 0) dX1_isOf_5 (by decide) rfl ?_
    refine wp_istore_n (l' := [_, _, _, some _]) dX1_isOf_6 rfl rfl ?_
    refine wp_iload_n dX1_isOf_7 rfl rfl ?_
    refine wp_gets dX1_isOf_8 sRX1_31 rfl ?_
    refine wx_alen dX1_isOf_11 rfl rfl rfl rfl ?_
    rw [show lnf s.2.2.1 (1, 0, 0) = 6 from rfl]
    refine wp_icmp_ge (t := 41) dX1_isOf_12 rfl rfl (fun h12 => absurd h12 (by decide)) (fun h12 => ?_)
    refine wp_iload_n dX1_isOf_15 rfl rfl ?_
    refine wn_callS1d dX1_isOf_16 rRX1_35 (Nat.le_of_ble_eq_true rfl) rfl (Nat.le_of_ble_eq_true rfl) rfl (c7_isKind) ?_
    refine wp_if_eq_b (t := 41) dX1_isOf_19 rfl rfl (fun h19 => absurd h19 (by decide)) (fun h19 => ?_)
    refine wp_iload_n dX1_isOf_22 rfl rfl ?_
    refine wp_iload_n dX1_isOf_23 rfl rfl ?_
    refine wp_icmp_ne (t := 29) dX1_isOf_24 rfl rfl (fun h24_0 => ?_) (fun h24_0 => ?_)
    · refine wp_gets dX1_isOf_29 sRX1_31 rfl ?_
      refine wp_iload_n dX1_isOf_32 rfl rfl ?_
      refine wx_iald (j := 0) dX1_isOf_33 rfl rfl ⟨by decide, by decide⟩ (Nat.le_of_ble_eq_true rfl) rfl ?_
      rw [hA.1]
      refine wp_istore_n (l' := [_, _, some _, _]) dX1_isOf_34 rfl rfl ?_
      refine wp_iinc (l' := [_, _, _, some _]) (v := 1) dX1_isOf_35 rfl (by decide) rfl rfl ?_
      refine wp_goto (t := 7) dX1_isOf_38 rfl ?_
      refine wp_iload_n dX1_isOf_7 rfl rfl ?_
      refine wp_gets dX1_isOf_8 sRX1_31 rfl ?_
      refine wx_alen dX1_isOf_11 rfl rfl rfl rfl ?_
      rw [show lnf s.2.2.1 (1, 0, 0) = 6 from rfl]
      refine wp_icmp_ge (t := 41) dX1_isOf_12 rfl rfl (fun h12 => absurd h12 (by decide)) (fun h12 => ?_)
      refine wp_iload_n dX1_isOf_15 rfl rfl ?_
      refine wn_callS1d dX1_isOf_16 rRX1_35 (Nat.le_of_ble_eq_true rfl) rfl (Nat.le_of_ble_eq_true rfl) rfl (c7_isKind) ?_
      refine wp_if_eq_b (t := 41) dX1_isOf_19 rfl rfl (fun h19 => ?_) (fun h19 => absurd h19 (by decide))
      refine wp_iconst (v := 0) dX1_isOf_41 (by decide) rfl ?_
      refine wp_iret dX1_isOf_42 rfl (by decide) ?_
      refine ⟨_, _, rfl, rfl, (bI_f (fun z => ?_)).symm, rfl⟩
      rcases z with e | e | ⟨e, e2⟩ | ⟨e, e2⟩ <;> subst e <;> first | exact h24_0 (by decide) | exact absurd e2 (by decide)
    · refine wp_iconst (v := 1) dX1_isOf_27 (by decide) rfl ?_
      refine wp_iret dX1_isOf_28 rfl (by decide) ?_
      subst h24_0
      exact ⟨_, _, rfl, rfl, (bI_t (by decide)).symm, rfl⟩
  · refine wp_aload_n dX1_isOf_0 rfl rfl ?_
    refine wn_getI dX1_isOf_1 fRX1_9 (o12 hi hj) rfl rfl ?_
    rw [hK]
    refine wp_istore_n (l' := [_, _, some _, _]) dX1_isOf_4 rfl rfl ?_
    refine wp_iconst (v := 0) dX1_isOf_5 (by decide) rfl ?_
    refine wp_istore_n (l' := [_, _, _, some _]) dX1_isOf_6 rfl rfl ?_
    refine wp_iload_n dX1_isOf_7 rfl rfl ?_
    refine wp_gets dX1_isOf_8 sRX1_31 rfl ?_
    refine wx_alen dX1_isOf_11 rfl rfl rfl rfl ?_
    rw [show lnf s.2.2.1 (1, 0, 0) = 6 from rfl]
    refine wp_icmp_ge (t := 41) dX1_isOf_12 rfl rfl (fun h12 => absurd h12 (by decide)) (fun h12 => ?_)
    refine wp_iload_n dX1_isOf_15 rfl rfl ?_
    refine wn_callS1d dX1_isOf_16 rRX1_35 (Nat.le_of_ble_eq_true rfl) rfl (Nat.le_of_ble_eq_true rfl) rfl (c7_isKind) ?_
    refine wp_if_eq_b (t := 41) dX1_isOf_19 rfl rfl (fun h19 => absurd h19 (by decide)) (fun h19 => ?_)
    refine wp_iload_n dX1_isOf_22 rfl rfl ?_
    refine wp_iload_n dX1_isOf_23 rfl rfl ?_
    refine wp_icmp_ne (t := 29) dX1_isOf_24 rfl rfl (fun h24_0 => ?_) (fun h24_0 => ?_)
    · refine wp_gets dX1_isOf_29 sRX1_31 rfl ?_
      refine wp_iload_n dX1_isOf_32 rfl rfl ?_
      refine wx_iald (j := 1) dX1_isOf_33 rfl rfl ⟨by decide, by decide⟩ (Nat.le_of_ble_eq_true rfl) rfl ?_
      rw [hA.2.1]
      refine wp_istore_n (l' := [_, _, some _, _]) dX1_isOf_34 rfl rfl ?_
      refine wp_iinc (l' := [_, _, _, some _]) (v := 1) dX1_isOf_35 rfl (by decide) rfl rfl ?_
      refine wp_goto (t := 7) dX1_isOf_38 rfl ?_
      refine wp_iload_n dX1_isOf_7 rfl rfl ?_
      refine wp_gets dX1_isOf_8 sRX1_31 rfl ?_
      refine wx_alen dX1_isOf_11 rfl rfl rfl rfl ?_
      rw [show lnf s.2.2.1 (1, 0, 0) = 6 from rfl]
      refine wp_icmp_ge (t := 41) dX1_isOf_12 rfl rfl (fun h12 => absurd h12 (by decide)) (fun h12 => ?_)
      refine wp_iload_n dX1_isOf_15 rfl rfl ?_
      refine wn_callS1d dX1_isOf_16 rRX1_35 (Nat.le_of_ble_eq_true rfl) rfl (Nat.le_of_ble_eq_true rfl) rfl (c7_isKind) ?_
      refine wp_if_eq_b (t := 41) dX1_isOf_19 rfl rfl (fun h19 => absurd h19 (by decide)) (fun h19 => ?_)
      refine wp_iload_n dX1_isOf_22 rfl rfl ?_
      refine wp_iload_n dX1_isOf_23 rfl rfl ?_
      refine wp_icmp_ne (t := 29) dX1_isOf_24 rfl rfl (fun h24_1 => ?_) (fun h24_1 => ?_)
      · refine wp_gets dX1_isOf_29 sRX1_31 rfl ?_
        refine wp_iload_n dX1_isOf_32 rfl rfl ?_
        refine wx_iald (j := 0) dX1_isOf_33 rfl rfl ⟨by decide, by decide⟩ (Nat.le_of_ble_eq_true rfl) rfl ?_
        rw [hA.1]
        refine wp_istore_n (l' := [_, _, some _, _]) dX1_isOf_34 rfl rfl ?_
        refine wp_iinc (l' := [_, _, _, some _]) (v := 1) dX1_isOf_35 rfl (by decide) rfl rfl ?_
        refine wp_goto (t := 7) dX1_isOf_38 rfl ?_
        refine wp_iload_n dX1_isOf_7 rfl rfl ?_
        refine wp_gets dX1_isOf_8 sRX1_31 rfl ?_
        refine wx_alen dX1_isOf_11 rfl rfl rfl rfl ?_
        rw [show lnf s.2.2.1 (1, 0, 0) = 6 from rfl]
        refine wp_icmp_ge (t := 41) dX1_isOf_12 rfl rfl (fun h12 => absurd h12 (by decide)) (fun h12 => ?_)
        refine wp_iload_n dX1_isOf_15 rfl rfl ?_
        refine wn_callS1d dX1_isOf_16 rRX1_35 (Nat.le_of_ble_eq_true rfl) rfl (Nat.le_of_ble_eq_true rfl) rfl (c7_isKind) ?_
        refine wp_if_eq_b (t := 41) dX1_isOf_19 rfl rfl (fun h19 => ?_) (fun h19 => absurd h19 (by decide))
        refine wp_iconst (v := 0) dX1_isOf_41 (by decide) rfl ?_
        refine wp_iret dX1_isOf_42 rfl (by decide) ?_
        refine ⟨_, _, rfl, rfl, (bI_f (fun z => ?_)).symm, rfl⟩
        rcases z with e | e | ⟨e, e2⟩ | ⟨e, e2⟩ <;> subst e <;> first | exact h24_0 (by decide) | exact h24_1 (by decide) | exact absurd e2 (by decide)
      · refine wp_iconst (v := 1) dX1_isOf_27 (by decide) rfl ?_
        refine wp_iret dX1_isOf_28 rfl (by decide) ?_
        subst h24_1
        exact ⟨_, _, rfl, rfl, (bI_t (by decide)).symm, rfl⟩
    · refine wp_iconst (v := 1) dX1_isOf_27 (by decide) rfl ?_
      refine wp_iret dX1_isOf_28 rfl (by decide) ?_
      subst h24_0
      exact ⟨_, _, rfl, rfl, (bI_t (by decide)).symm, rfl⟩
  · refine wp_aload_n dX1_isOf_0 rfl rfl ?_
    refine wn_getI dX1_isOf_1 fRX1_9 (o12 hi hj) rfl rfl ?_
    rw [hK]
    refine wp_istore_n (l' := [_, _, some _, _]) dX1_isOf_4 rfl rfl ?_
    refine wp_iconst (v := 0) dX1_isOf_5 (by decide) rfl ?_
    refine wp_istore_n (l' := [_, _, _, some _]) dX1_isOf_6 rfl rfl ?_
    refine wp_iload_n dX1_isOf_7 rfl rfl ?_
    refine wp_gets dX1_isOf_8 sRX1_31 rfl ?_
    refine wx_alen dX1_isOf_11 rfl rfl rfl rfl ?_
    rw [show lnf s.2.2.1 (1, 0, 0) = 6 from rfl]
    refine wp_icmp_ge (t := 41) dX1_isOf_12 rfl rfl (fun h12 => absurd h12 (by decide)) (fun h12 => ?_)
    refine wp_iload_n dX1_isOf_15 rfl rfl ?_
    refine wn_callS1d dX1_isOf_16 rRX1_35 (Nat.le_of_ble_eq_true rfl) rfl (Nat.le_of_ble_eq_true rfl) rfl (c7_isKind) ?_
    refine wp_if_eq_b (t := 41) dX1_isOf_19 rfl rfl (fun h19 => absurd h19 (by decide)) (fun h19 => ?_)
    refine wp_iload_n dX1_isOf_22 rfl rfl ?_
    refine wp_iload_n dX1_isOf_23 rfl rfl ?_
    refine wp_icmp_ne (t := 29) dX1_isOf_24 rfl rfl (fun h24_0 => ?_) (fun h24_0 => ?_)
    · refine wp_gets dX1_isOf_29 sRX1_31 rfl ?_
      refine wp_iload_n dX1_isOf_32 rfl rfl ?_
      refine wx_iald (j := 2) dX1_isOf_33 rfl rfl ⟨by decide, by decide⟩ (Nat.le_of_ble_eq_true rfl) rfl ?_
      rw [hA.2.2.1]
      refine wp_istore_n (l' := [_, _, some _, _]) dX1_isOf_34 rfl rfl ?_
      refine wp_iinc (l' := [_, _, _, some _]) (v := 1) dX1_isOf_35 rfl (by decide) rfl rfl ?_
      refine wp_goto (t := 7) dX1_isOf_38 rfl ?_
      refine wp_iload_n dX1_isOf_7 rfl rfl ?_
      refine wp_gets dX1_isOf_8 sRX1_31 rfl ?_
      refine wx_alen dX1_isOf_11 rfl rfl rfl rfl ?_
      rw [show lnf s.2.2.1 (1, 0, 0) = 6 from rfl]
      refine wp_icmp_ge (t := 41) dX1_isOf_12 rfl rfl (fun h12 => absurd h12 (by decide)) (fun h12 => ?_)
      refine wp_iload_n dX1_isOf_15 rfl rfl ?_
      refine wn_callS1d dX1_isOf_16 rRX1_35 (Nat.le_of_ble_eq_true rfl) rfl (Nat.le_of_ble_eq_true rfl) rfl (c7_isKind) ?_
      refine wp_if_eq_b (t := 41) dX1_isOf_19 rfl rfl (fun h19 => absurd h19 (by decide)) (fun h19 => ?_)
      refine wp_iload_n dX1_isOf_22 rfl rfl ?_
      refine wp_iload_n dX1_isOf_23 rfl rfl ?_
      refine wp_icmp_ne (t := 29) dX1_isOf_24 rfl rfl (fun h24_1 => ?_) (fun h24_1 => ?_)
      · refine wp_gets dX1_isOf_29 sRX1_31 rfl ?_
        refine wp_iload_n dX1_isOf_32 rfl rfl ?_
        refine wx_iald (j := 0) dX1_isOf_33 rfl rfl ⟨by decide, by decide⟩ (Nat.le_of_ble_eq_true rfl) rfl ?_
        rw [hA.1]
        refine wp_istore_n (l' := [_, _, some _, _]) dX1_isOf_34 rfl rfl ?_
        refine wp_iinc (l' := [_, _, _, some _]) (v := 1) dX1_isOf_35 rfl (by decide) rfl rfl ?_
        refine wp_goto (t := 7) dX1_isOf_38 rfl ?_
        refine wp_iload_n dX1_isOf_7 rfl rfl ?_
        refine wp_gets dX1_isOf_8 sRX1_31 rfl ?_
        refine wx_alen dX1_isOf_11 rfl rfl rfl rfl ?_
        rw [show lnf s.2.2.1 (1, 0, 0) = 6 from rfl]
        refine wp_icmp_ge (t := 41) dX1_isOf_12 rfl rfl (fun h12 => absurd h12 (by decide)) (fun h12 => ?_)
        refine wp_iload_n dX1_isOf_15 rfl rfl ?_
        refine wn_callS1d dX1_isOf_16 rRX1_35 (Nat.le_of_ble_eq_true rfl) rfl (Nat.le_of_ble_eq_true rfl) rfl (c7_isKind) ?_
        refine wp_if_eq_b (t := 41) dX1_isOf_19 rfl rfl (fun h19 => ?_) (fun h19 => absurd h19 (by decide))
        refine wp_iconst (v := 0) dX1_isOf_41 (by decide) rfl ?_
        refine wp_iret dX1_isOf_42 rfl (by decide) ?_
        refine ⟨_, _, rfl, rfl, (bI_f (fun z => ?_)).symm, rfl⟩
        rcases z with e | e | ⟨e, e2⟩ | ⟨e, e2⟩ <;> subst e <;> first | exact h24_0 (by decide) | exact h24_1 (by decide) | exact absurd e2 (by decide)
      · refine wp_iconst (v := 1) dX1_isOf_27 (by decide) rfl ?_
        refine wp_iret dX1_isOf_28 rfl (by decide) ?_
        subst h24_1
        exact ⟨_, _, rfl, rfl, (bI_t (by decide)).symm, rfl⟩
    · refine wp_iconst (v := 1) dX1_isOf_27 (by decide) rfl ?_
      refine wp_iret dX1_isOf_28 rfl (by decide) ?_
      subst h24_0
      exact ⟨_, _, rfl, rfl, (bI_t (by decide)).symm, rfl⟩
  · refine wp_aload_n dX1_isOf_0 rfl rfl ?_
    refine wn_getI dX1_isOf_1 fRX1_9 (o12 hi hj) rfl rfl ?_
    rw [hK]
    refine wp_istore_n (l' := [_, _, some _, _]) dX1_isOf_4 rfl rfl ?_
    refine wp_iconst (v := 0) dX1_isOf_5 (by decide) rfl ?_
    refine wp_istore_n (l' := [_, _, _, some _]) dX1_isOf_6 rfl rfl ?_
    refine wp_iload_n dX1_isOf_7 rfl rfl ?_
    refine wp_gets dX1_isOf_8 sRX1_31 rfl ?_
    refine wx_alen dX1_isOf_11 rfl rfl rfl rfl ?_
    rw [show lnf s.2.2.1 (1, 0, 0) = 6 from rfl]
    refine wp_icmp_ge (t := 41) dX1_isOf_12 rfl rfl (fun h12 => absurd h12 (by decide)) (fun h12 => ?_)
    refine wp_iload_n dX1_isOf_15 rfl rfl ?_
    refine wn_callS1d dX1_isOf_16 rRX1_35 (Nat.le_of_ble_eq_true rfl) rfl (Nat.le_of_ble_eq_true rfl) rfl (c7_isKind) ?_
    refine wp_if_eq_b (t := 41) dX1_isOf_19 rfl rfl (fun h19 => absurd h19 (by decide)) (fun h19 => ?_)
    refine wp_iload_n dX1_isOf_22 rfl rfl ?_
    refine wp_iload_n dX1_isOf_23 rfl rfl ?_
    refine wp_icmp_ne (t := 29) dX1_isOf_24 rfl rfl (fun h24_0 => ?_) (fun h24_0 => ?_)
    · refine wp_gets dX1_isOf_29 sRX1_31 rfl ?_
      refine wp_iload_n dX1_isOf_32 rfl rfl ?_
      refine wx_iald (j := 3) dX1_isOf_33 rfl rfl ⟨by decide, by decide⟩ (Nat.le_of_ble_eq_true rfl) rfl ?_
      rw [hA.2.2.2.1]
      refine wp_istore_n (l' := [_, _, some _, _]) dX1_isOf_34 rfl rfl ?_
      refine wp_iinc (l' := [_, _, _, some _]) (v := 1) dX1_isOf_35 rfl (by decide) rfl rfl ?_
      refine wp_goto (t := 7) dX1_isOf_38 rfl ?_
      refine wp_iload_n dX1_isOf_7 rfl rfl ?_
      refine wp_gets dX1_isOf_8 sRX1_31 rfl ?_
      refine wx_alen dX1_isOf_11 rfl rfl rfl rfl ?_
      rw [show lnf s.2.2.1 (1, 0, 0) = 6 from rfl]
      refine wp_icmp_ge (t := 41) dX1_isOf_12 rfl rfl (fun h12 => absurd h12 (by decide)) (fun h12 => ?_)
      refine wp_iload_n dX1_isOf_15 rfl rfl ?_
      refine wn_callS1d dX1_isOf_16 rRX1_35 (Nat.le_of_ble_eq_true rfl) rfl (Nat.le_of_ble_eq_true rfl) rfl (c7_isKind) ?_
      refine wp_if_eq_b (t := 41) dX1_isOf_19 rfl rfl (fun h19 => absurd h19 (by decide)) (fun h19 => ?_)
      refine wp_iload_n dX1_isOf_22 rfl rfl ?_
      refine wp_iload_n dX1_isOf_23 rfl rfl ?_
      refine wp_icmp_ne (t := 29) dX1_isOf_24 rfl rfl (fun h24_1 => ?_) (fun h24_1 => ?_)
      · refine wp_gets dX1_isOf_29 sRX1_31 rfl ?_
        refine wp_iload_n dX1_isOf_32 rfl rfl ?_
        refine wx_iald (j := 1) dX1_isOf_33 rfl rfl ⟨by decide, by decide⟩ (Nat.le_of_ble_eq_true rfl) rfl ?_
        rw [hA.2.1]
        refine wp_istore_n (l' := [_, _, some _, _]) dX1_isOf_34 rfl rfl ?_
        refine wp_iinc (l' := [_, _, _, some _]) (v := 1) dX1_isOf_35 rfl (by decide) rfl rfl ?_
        refine wp_goto (t := 7) dX1_isOf_38 rfl ?_
        refine wp_iload_n dX1_isOf_7 rfl rfl ?_
        refine wp_gets dX1_isOf_8 sRX1_31 rfl ?_
        refine wx_alen dX1_isOf_11 rfl rfl rfl rfl ?_
        rw [show lnf s.2.2.1 (1, 0, 0) = 6 from rfl]
        refine wp_icmp_ge (t := 41) dX1_isOf_12 rfl rfl (fun h12 => absurd h12 (by decide)) (fun h12 => ?_)
        refine wp_iload_n dX1_isOf_15 rfl rfl ?_
        refine wn_callS1d dX1_isOf_16 rRX1_35 (Nat.le_of_ble_eq_true rfl) rfl (Nat.le_of_ble_eq_true rfl) rfl (c7_isKind) ?_
        refine wp_if_eq_b (t := 41) dX1_isOf_19 rfl rfl (fun h19 => absurd h19 (by decide)) (fun h19 => ?_)
        refine wp_iload_n dX1_isOf_22 rfl rfl ?_
        refine wp_iload_n dX1_isOf_23 rfl rfl ?_
        refine wp_icmp_ne (t := 29) dX1_isOf_24 rfl rfl (fun h24_2 => ?_) (fun h24_2 => ?_)
        · refine wp_gets dX1_isOf_29 sRX1_31 rfl ?_
          refine wp_iload_n dX1_isOf_32 rfl rfl ?_
          refine wx_iald (j := 0) dX1_isOf_33 rfl rfl ⟨by decide, by decide⟩ (Nat.le_of_ble_eq_true rfl) rfl ?_
          rw [hA.1]
          refine wp_istore_n (l' := [_, _, some _, _]) dX1_isOf_34 rfl rfl ?_
          refine wp_iinc (l' := [_, _, _, some _]) (v := 1) dX1_isOf_35 rfl (by decide) rfl rfl ?_
          refine wp_goto (t := 7) dX1_isOf_38 rfl ?_
          refine wp_iload_n dX1_isOf_7 rfl rfl ?_
          refine wp_gets dX1_isOf_8 sRX1_31 rfl ?_
          refine wx_alen dX1_isOf_11 rfl rfl rfl rfl ?_
          rw [show lnf s.2.2.1 (1, 0, 0) = 6 from rfl]
          refine wp_icmp_ge (t := 41) dX1_isOf_12 rfl rfl (fun h12 => absurd h12 (by decide)) (fun h12 => ?_)
          refine wp_iload_n dX1_isOf_15 rfl rfl ?_
          refine wn_callS1d dX1_isOf_16 rRX1_35 (Nat.le_of_ble_eq_true rfl) rfl (Nat.le_of_ble_eq_true rfl) rfl (c7_isKind) ?_
          refine wp_if_eq_b (t := 41) dX1_isOf_19 rfl rfl (fun h19 => ?_) (fun h19 => absurd h19 (by decide))
          refine wp_iconst (v := 0) dX1_isOf_41 (by decide) rfl ?_
          refine wp_iret dX1_isOf_42 rfl (by decide) ?_
          refine ⟨_, _, rfl, rfl, (bI_f (fun z => ?_)).symm, rfl⟩
          rcases z with e | e | ⟨e, e2⟩ | ⟨e, e2⟩ <;> subst e <;> first | exact h24_0 (by decide) | exact h24_1 (by decide) | exact h24_2 (by decide) | exact absurd e2 (by decide)
        · refine wp_iconst (v := 1) dX1_isOf_27 (by decide) rfl ?_
          refine wp_iret dX1_isOf_28 rfl (by decide) ?_
          subst h24_2
          exact ⟨_, _, rfl, rfl, (bI_t (by decide)).symm, rfl⟩
      · refine wp_iconst (v := 1) dX1_isOf_27 (by decide) rfl ?_
        refine wp_iret dX1_isOf_28 rfl (by decide) ?_
        subst h24_1
        exact ⟨_, _, rfl, rfl, (bI_t (by decide)).symm, rfl⟩
    · refine wp_iconst (v := 1) dX1_isOf_27 (by decide) rfl ?_
      refine wp_iret dX1_isOf_28 rfl (by decide) ?_
      subst h24_0
      exact ⟨_, _, rfl, rfl, (bI_t (by decide)).symm, rfl⟩
  · refine wp_aload_n dX1_isOf_0 rfl rfl ?_
    refine wn_getI dX1_isOf_1 fRX1_9 (o12 hi hj) rfl rfl ?_
    rw [hK]
    refine wp_istore_n (l' := [_, _, some _, _]) dX1_isOf_4 rfl rfl ?_
    refine wp_iconst (v := 0) dX1_isOf_5 (by decide) rfl ?_
    refine wp_istore_n (l' := [_, _, _, some _]) dX1_isOf_6 rfl rfl ?_
    refine wp_iload_n dX1_isOf_7 rfl rfl ?_
    refine wp_gets dX1_isOf_8 sRX1_31 rfl ?_
    refine wx_alen dX1_isOf_11 rfl rfl rfl rfl ?_
    rw [show lnf s.2.2.1 (1, 0, 0) = 6 from rfl]
    refine wp_icmp_ge (t := 41) dX1_isOf_12 rfl rfl (fun h12 => absurd h12 (by decide)) (fun h12 => ?_)
    refine wp_iload_n dX1_isOf_15 rfl rfl ?_
    refine wn_callS1d dX1_isOf_16 rRX1_35 (Nat.le_of_ble_eq_true rfl) rfl (Nat.le_of_ble_eq_true rfl) rfl (c7_isKind) ?_
    refine wp_if_eq_b (t := 41) dX1_isOf_19 rfl rfl (fun h19 => absurd h19 (by decide)) (fun h19 => ?_)
    refine wp_iload_n dX1_isOf_22 rfl rfl ?_
    refine wp_iload_n dX1_isOf_23 rfl rfl ?_
    refine wp_icmp_ne (t := 29) dX1_isOf_24 rfl rfl (fun h24_0 => ?_) (fun h24_0 => ?_)
    · refine wp_gets dX1_isOf_29 sRX1_31 rfl ?_
      refine wp_iload_n dX1_isOf_32 rfl rfl ?_
      refine wx_iald (j := 4) dX1_isOf_33 rfl rfl ⟨by decide, by decide⟩ (Nat.le_of_ble_eq_true rfl) rfl ?_
      rw [hA.2.2.2.2.1]
      refine wp_istore_n (l' := [_, _, some _, _]) dX1_isOf_34 rfl rfl ?_
      refine wp_iinc (l' := [_, _, _, some _]) (v := 1) dX1_isOf_35 rfl (by decide) rfl rfl ?_
      refine wp_goto (t := 7) dX1_isOf_38 rfl ?_
      refine wp_iload_n dX1_isOf_7 rfl rfl ?_
      refine wp_gets dX1_isOf_8 sRX1_31 rfl ?_
      refine wx_alen dX1_isOf_11 rfl rfl rfl rfl ?_
      rw [show lnf s.2.2.1 (1, 0, 0) = 6 from rfl]
      refine wp_icmp_ge (t := 41) dX1_isOf_12 rfl rfl (fun h12 => absurd h12 (by decide)) (fun h12 => ?_)
      refine wp_iload_n dX1_isOf_15 rfl rfl ?_
      refine wn_callS1d dX1_isOf_16 rRX1_35 (Nat.le_of_ble_eq_true rfl) rfl (Nat.le_of_ble_eq_true rfl) rfl (c7_isKind) ?_
      refine wp_if_eq_b (t := 41) dX1_isOf_19 rfl rfl (fun h19 => absurd h19 (by decide)) (fun h19 => ?_)
      refine wp_iload_n dX1_isOf_22 rfl rfl ?_
      refine wp_iload_n dX1_isOf_23 rfl rfl ?_
      refine wp_icmp_ne (t := 29) dX1_isOf_24 rfl rfl (fun h24_1 => ?_) (fun h24_1 => ?_)
      · refine wp_gets dX1_isOf_29 sRX1_31 rfl ?_
        refine wp_iload_n dX1_isOf_32 rfl rfl ?_
        refine wx_iald (j := 2) dX1_isOf_33 rfl rfl ⟨by decide, by decide⟩ (Nat.le_of_ble_eq_true rfl) rfl ?_
        rw [hA.2.2.1]
        refine wp_istore_n (l' := [_, _, some _, _]) dX1_isOf_34 rfl rfl ?_
        refine wp_iinc (l' := [_, _, _, some _]) (v := 1) dX1_isOf_35 rfl (by decide) rfl rfl ?_
        refine wp_goto (t := 7) dX1_isOf_38 rfl ?_
        refine wp_iload_n dX1_isOf_7 rfl rfl ?_
        refine wp_gets dX1_isOf_8 sRX1_31 rfl ?_
        refine wx_alen dX1_isOf_11 rfl rfl rfl rfl ?_
        rw [show lnf s.2.2.1 (1, 0, 0) = 6 from rfl]
        refine wp_icmp_ge (t := 41) dX1_isOf_12 rfl rfl (fun h12 => absurd h12 (by decide)) (fun h12 => ?_)
        refine wp_iload_n dX1_isOf_15 rfl rfl ?_
        refine wn_callS1d dX1_isOf_16 rRX1_35 (Nat.le_of_ble_eq_true rfl) rfl (Nat.le_of_ble_eq_true rfl) rfl (c7_isKind) ?_
        refine wp_if_eq_b (t := 41) dX1_isOf_19 rfl rfl (fun h19 => absurd h19 (by decide)) (fun h19 => ?_)
        refine wp_iload_n dX1_isOf_22 rfl rfl ?_
        refine wp_iload_n dX1_isOf_23 rfl rfl ?_
        refine wp_icmp_ne (t := 29) dX1_isOf_24 rfl rfl (fun h24_2 => ?_) (fun h24_2 => ?_)
        · refine wp_gets dX1_isOf_29 sRX1_31 rfl ?_
          refine wp_iload_n dX1_isOf_32 rfl rfl ?_
          refine wx_iald (j := 0) dX1_isOf_33 rfl rfl ⟨by decide, by decide⟩ (Nat.le_of_ble_eq_true rfl) rfl ?_
          rw [hA.1]
          refine wp_istore_n (l' := [_, _, some _, _]) dX1_isOf_34 rfl rfl ?_
          refine wp_iinc (l' := [_, _, _, some _]) (v := 1) dX1_isOf_35 rfl (by decide) rfl rfl ?_
          refine wp_goto (t := 7) dX1_isOf_38 rfl ?_
          refine wp_iload_n dX1_isOf_7 rfl rfl ?_
          refine wp_gets dX1_isOf_8 sRX1_31 rfl ?_
          refine wx_alen dX1_isOf_11 rfl rfl rfl rfl ?_
          rw [show lnf s.2.2.1 (1, 0, 0) = 6 from rfl]
          refine wp_icmp_ge (t := 41) dX1_isOf_12 rfl rfl (fun h12 => absurd h12 (by decide)) (fun h12 => ?_)
          refine wp_iload_n dX1_isOf_15 rfl rfl ?_
          refine wn_callS1d dX1_isOf_16 rRX1_35 (Nat.le_of_ble_eq_true rfl) rfl (Nat.le_of_ble_eq_true rfl) rfl (c7_isKind) ?_
          refine wp_if_eq_b (t := 41) dX1_isOf_19 rfl rfl (fun h19 => ?_) (fun h19 => absurd h19 (by decide))
          refine wp_iconst (v := 0) dX1_isOf_41 (by decide) rfl ?_
          refine wp_iret dX1_isOf_42 rfl (by decide) ?_
          refine ⟨_, _, rfl, rfl, (bI_f (fun z => ?_)).symm, rfl⟩
          rcases z with e | e | ⟨e, e2⟩ | ⟨e, e2⟩ <;> subst e <;> first | exact h24_0 (by decide) | exact h24_1 (by decide) | exact h24_2 (by decide) | exact absurd e2 (by decide)
        · refine wp_iconst (v := 1) dX1_isOf_27 (by decide) rfl ?_
          refine wp_iret dX1_isOf_28 rfl (by decide) ?_
          subst h24_2
          exact ⟨_, _, rfl, rfl, (bI_t (by decide)).symm, rfl⟩
      · refine wp_iconst (v := 1) dX1_isOf_27 (by decide) rfl ?_
        refine wp_iret dX1_isOf_28 rfl (by decide) ?_
        subst h24_1
        exact ⟨_, _, rfl, rfl, (bI_t (by decide)).symm, rfl⟩
    · refine wp_iconst (v := 1) dX1_isOf_27 (by decide) rfl ?_
      refine wp_iret dX1_isOf_28 rfl (by decide) ?_
      subst h24_0
      exact ⟨_, _, rfl, rfl, (bI_t (by decide)).symm, rfl⟩
  · refine wp_aload_n dX1_isOf_0 rfl rfl ?_
    refine wn_getI dX1_isOf_1 fRX1_9 (o12 hi hj) rfl rfl ?_
    rw [hK]
    refine wp_istore_n (l' := [_, _, some _, _]) dX1_isOf_4 rfl rfl ?_
    refine wp_iconst (v := 0) dX1_isOf_5 (by decide) rfl ?_
    refine wp_istore_n (l' := [_, _, _, some _]) dX1_isOf_6 rfl rfl ?_
    refine wp_iload_n dX1_isOf_7 rfl rfl ?_
    refine wp_gets dX1_isOf_8 sRX1_31 rfl ?_
    refine wx_alen dX1_isOf_11 rfl rfl rfl rfl ?_
    rw [show lnf s.2.2.1 (1, 0, 0) = 6 from rfl]
    refine wp_icmp_ge (t := 41) dX1_isOf_12 rfl rfl (fun h12 => absurd h12 (by decide)) (fun h12 => ?_)
    refine wp_iload_n dX1_isOf_15 rfl rfl ?_
    refine wn_callS1d dX1_isOf_16 rRX1_35 (Nat.le_of_ble_eq_true rfl) rfl (Nat.le_of_ble_eq_true rfl) rfl (c7_isKind) ?_
    refine wp_if_eq_b (t := 41) dX1_isOf_19 rfl rfl (fun h19 => absurd h19 (by decide)) (fun h19 => ?_)
    refine wp_iload_n dX1_isOf_22 rfl rfl ?_
    refine wp_iload_n dX1_isOf_23 rfl rfl ?_
    refine wp_icmp_ne (t := 29) dX1_isOf_24 rfl rfl (fun h24_0 => ?_) (fun h24_0 => ?_)
    · refine wp_gets dX1_isOf_29 sRX1_31 rfl ?_
      refine wp_iload_n dX1_isOf_32 rfl rfl ?_
      refine wx_iald (j := 5) dX1_isOf_33 rfl rfl ⟨by decide, by decide⟩ (Nat.le_of_ble_eq_true rfl) rfl ?_
      rw [hA.2.2.2.2.2]
      refine wp_istore_n (l' := [_, _, some _, _]) dX1_isOf_34 rfl rfl ?_
      refine wp_iinc (l' := [_, _, _, some _]) (v := 1) dX1_isOf_35 rfl (by decide) rfl rfl ?_
      refine wp_goto (t := 7) dX1_isOf_38 rfl ?_
      refine wp_iload_n dX1_isOf_7 rfl rfl ?_
      refine wp_gets dX1_isOf_8 sRX1_31 rfl ?_
      refine wx_alen dX1_isOf_11 rfl rfl rfl rfl ?_
      rw [show lnf s.2.2.1 (1, 0, 0) = 6 from rfl]
      refine wp_icmp_ge (t := 41) dX1_isOf_12 rfl rfl (fun h12 => absurd h12 (by decide)) (fun h12 => ?_)
      refine wp_iload_n dX1_isOf_15 rfl rfl ?_
      refine wn_callS1d dX1_isOf_16 rRX1_35 (Nat.le_of_ble_eq_true rfl) rfl (Nat.le_of_ble_eq_true rfl) rfl (c7_isKind) ?_
      refine wp_if_eq_b (t := 41) dX1_isOf_19 rfl rfl (fun h19 => absurd h19 (by decide)) (fun h19 => ?_)
      refine wp_iload_n dX1_isOf_22 rfl rfl ?_
      refine wp_iload_n dX1_isOf_23 rfl rfl ?_
      refine wp_icmp_ne (t := 29) dX1_isOf_24 rfl rfl (fun h24_1 => ?_) (fun h24_1 => ?_)
      · refine wp_gets dX1_isOf_29 sRX1_31 rfl ?_
        refine wp_iload_n dX1_isOf_32 rfl rfl ?_
        refine wx_iald (j := 0) dX1_isOf_33 rfl rfl ⟨by decide, by decide⟩ (Nat.le_of_ble_eq_true rfl) rfl ?_
        rw [hA.1]
        refine wp_istore_n (l' := [_, _, some _, _]) dX1_isOf_34 rfl rfl ?_
        refine wp_iinc (l' := [_, _, _, some _]) (v := 1) dX1_isOf_35 rfl (by decide) rfl rfl ?_
        refine wp_goto (t := 7) dX1_isOf_38 rfl ?_
        refine wp_iload_n dX1_isOf_7 rfl rfl ?_
        refine wp_gets dX1_isOf_8 sRX1_31 rfl ?_
        refine wx_alen dX1_isOf_11 rfl rfl rfl rfl ?_
        rw [show lnf s.2.2.1 (1, 0, 0) = 6 from rfl]
        refine wp_icmp_ge (t := 41) dX1_isOf_12 rfl rfl (fun h12 => absurd h12 (by decide)) (fun h12 => ?_)
        refine wp_iload_n dX1_isOf_15 rfl rfl ?_
        refine wn_callS1d dX1_isOf_16 rRX1_35 (Nat.le_of_ble_eq_true rfl) rfl (Nat.le_of_ble_eq_true rfl) rfl (c7_isKind) ?_
        refine wp_if_eq_b (t := 41) dX1_isOf_19 rfl rfl (fun h19 => ?_) (fun h19 => absurd h19 (by decide))
        refine wp_iconst (v := 0) dX1_isOf_41 (by decide) rfl ?_
        refine wp_iret dX1_isOf_42 rfl (by decide) ?_
        refine ⟨_, _, rfl, rfl, (bI_f (fun z => ?_)).symm, rfl⟩
        rcases z with e | e | ⟨e, e2⟩ | ⟨e, e2⟩ <;> subst e <;> first | exact h24_0 (by decide) | exact h24_1 (by decide) | exact absurd e2 (by decide)
      · refine wp_iconst (v := 1) dX1_isOf_27 (by decide) rfl ?_
        refine wp_iret dX1_isOf_28 rfl (by decide) ?_
        subst h24_1
        exact ⟨_, _, rfl, rfl, (bI_t (by decide)).symm, rfl⟩
    · refine wp_iconst (v := 1) dX1_isOf_27 (by decide) rfl ?_
      refine wp_iret dX1_isOf_28 rfl (by decide) ?_
      subst h24_0
      exact ⟨_, _, rfl, rfl, (bI_t (by decide)).symm, rfl⟩
theorem c1_isOfs {s : Sn} {k : Nat} {y : Int32} (hi : i < 5) (hA : AB s) (hk : k ≤ 5) (hK : s.1 (31, i, 0) 0 = nI k) : Ca (d + 2) MX1_isOf [vR 31 i 0, vI y] (hN s) (Pd (bI (und (nI k) y)) s) := by
  change Wp _ _ 0 [some _, some _, none, none] [] _ _
  obtain rfl | rfl | rfl | rfl | rfl | rfl := k5 hk
  · refine wp_aload_n dX1_isOf_0 rfl rfl ?_
    refine wn_getI dX1_isOf_1 fRX1_9 (o31 hi) rfl rfl ?_
    rw [hK]
    refine wp_istore_n (l' := [_, _, some _, _]) dX1_isOf_4 rfl rfl ?_
    refine wp_iconst (v := 0) dX1_isOf_5 (by decide) rfl ?_
    refine wp_istore_n (l' := [_, _, _, some _]) dX1_isOf_6 rfl rfl ?_
    refine wp_iload_n dX1_isOf_7 rfl rfl ?_
    refine wp_gets dX1_isOf_8 sRX1_31 rfl ?_
    refine wx_alen dX1_isOf_11 rfl rfl rfl rfl ?_
    rw [show lnf s.2.2.1 (1, 0, 0) = 6 from rfl]
    refine wp_icmp_ge (t := 41) dX1_isOf_12 rfl rfl (fun h12 => absurd h12 (by decide)) (fun h12 => ?_)
    refine wp_iload_n dX1_isOf_15 rfl rfl ?_
    refine wn_callS1d dX1_isOf_16 rRX1_35 (Nat.le_of_ble_eq_true rfl) rfl (Nat.le_of_ble_eq_true rfl) rfl (c7_isKind) ?_
    refine wp_if_eq_b (t := 41) dX1_isOf_19 rfl rfl (fun h19 => absurd h19 (by decide)) (fun h19 => ?_)
    refine wp_iload_n dX1_isOf_22 rfl rfl ?_
    refine wp_iload_n dX1_isOf_23 rfl rfl ?_
    refine wp_icmp_ne (t := 29) dX1_isOf_24 rfl rfl (fun h24_0 => ?_) (fun h24_0 => ?_)
    · refine wp_gets dX1_isOf_29 sRX1_31 rfl ?_
      refine wp_iload_n dX1_isOf_32 rfl rfl ?_
      refine wx_iald (j := 0) dX1_isOf_33 rfl rfl ⟨by decide, by decide⟩ (Nat.le_of_ble_eq_true rfl) rfl ?_
      rw [hA.1]
      refine wp_istore_n (l' := [_, _, some _, _]) dX1_isOf_34 rfl rfl ?_
      refine wp_iinc (l' := [_, _, _, some _]) (v := 1) dX1_isOf_35 rfl (by decide) rfl rfl ?_
      refine wp_goto (t := 7) dX1_isOf_38 rfl ?_
      refine wp_iload_n dX1_isOf_7 rfl rfl ?_
      refine wp_gets dX1_isOf_8 sRX1_31 rfl ?_
      refine wx_alen dX1_isOf_11 rfl rfl rfl rfl ?_
      rw [show lnf s.2.2.1 (1, 0, 0) = 6 from rfl]
      refine wp_icmp_ge (t := 41) dX1_isOf_12 rfl rfl (fun h12 => absurd h12 (by decide)) (fun h12 => ?_)
      refine wp_iload_n dX1_isOf_15 rfl rfl ?_
      refine wn_callS1d dX1_isOf_16 rRX1_35 (Nat.le_of_ble_eq_true rfl) rfl (Nat.le_of_ble_eq_true rfl) rfl (c7_isKind) ?_
      refine wp_if_eq_b (t := 41) dX1_isOf_19 rfl rfl (fun h19 => ?_) (fun h19 => absurd h19 (by decide))
      refine wp_iconst (v := 0) dX1_isOf_41 (by decide) rfl ?_
      refine wp_iret dX1_isOf_42 rfl (by decide) ?_
      refine ⟨_, _, rfl, rfl, (bI_f (fun z => ?_)).symm, rfl⟩
      rcases z with e | e | ⟨e, e2⟩ | ⟨e, e2⟩ <;> subst e <;> first | exact h24_0 (by decide) | exact absurd e2 (by decide)
    · refine wp_iconst (v := 1) dX1_isOf_27 (by decide) rfl ?_
      refine wp_iret dX1_isOf_28 rfl (by decide) ?_
      subst h24_0
      exact ⟨_, _, rfl, rfl, (bI_t (by decide)).symm, rfl⟩
  · refine wp_aload_n dX1_isOf_0 rfl rfl ?_
    refine wn_getI dX1_isOf_1 fRX1_9 (o31 hi) rfl rfl ?_
    rw [hK]
    refine wp_istore_n (l' := [_, _, some _, _]) dX1_isOf_4 rfl rfl ?_
    refine wp_iconst (v := 0) dX1_isOf_5 (by decide) rfl ?_
    refine wp_istore_n (l' := [_, _, _, some _]) dX1_isOf_6 rfl rfl ?_
    refine wp_iload_n dX1_isOf_7 rfl rfl ?_
    refine wp_gets dX1_isOf_8 sRX1_31 rfl ?_
    refine wx_alen dX1_isOf_11 rfl rfl rfl rfl ?_
    rw [show lnf s.2.2.1 (1, 0, 0) = 6 from rfl]
    refine wp_icmp_ge (t := 41) dX1_isOf_12 rfl rfl (fun h12 => absurd h12 (by decide)) (fun h12 => ?_)
    refine wp_iload_n dX1_isOf_15 rfl rfl ?_
    refine wn_callS1d dX1_isOf_16 rRX1_35 (Nat.le_of_ble_eq_true rfl) rfl (Nat.le_of_ble_eq_true rfl) rfl (c7_isKind) ?_
    refine wp_if_eq_b (t := 41) dX1_isOf_19 rfl rfl (fun h19 => absurd h19 (by decide)) (fun h19 => ?_)
    refine wp_iload_n dX1_isOf_22 rfl rfl ?_
    refine wp_iload_n dX1_isOf_23 rfl rfl ?_
    refine wp_icmp_ne (t := 29) dX1_isOf_24 rfl rfl (fun h24_0 => ?_) (fun h24_0 => ?_)
    · refine wp_gets dX1_isOf_29 sRX1_31 rfl ?_
      refine wp_iload_n dX1_isOf_32 rfl rfl ?_
      refine wx_iald (j := 1) dX1_isOf_33 rfl rfl ⟨by decide, by decide⟩ (Nat.le_of_ble_eq_true rfl) rfl ?_
      rw [hA.2.1]
      refine wp_istore_n (l' := [_, _, some _, _]) dX1_isOf_34 rfl rfl ?_
      refine wp_iinc (l' := [_, _, _, some _]) (v := 1) dX1_isOf_35 rfl (by decide) rfl rfl ?_
      refine wp_goto (t := 7) dX1_isOf_38 rfl ?_
      refine wp_iload_n dX1_isOf_7 rfl rfl ?_
      refine wp_gets dX1_isOf_8 sRX1_31 rfl ?_
      refine wx_alen dX1_isOf_11 rfl rfl rfl rfl ?_
      rw [show lnf s.2.2.1 (1, 0, 0) = 6 from rfl]
      refine wp_icmp_ge (t := 41) dX1_isOf_12 rfl rfl (fun h12 => absurd h12 (by decide)) (fun h12 => ?_)
      refine wp_iload_n dX1_isOf_15 rfl rfl ?_
      refine wn_callS1d dX1_isOf_16 rRX1_35 (Nat.le_of_ble_eq_true rfl) rfl (Nat.le_of_ble_eq_true rfl) rfl (c7_isKind) ?_
      refine wp_if_eq_b (t := 41) dX1_isOf_19 rfl rfl (fun h19 => absurd h19 (by decide)) (fun h19 => ?_)
      refine wp_iload_n dX1_isOf_22 rfl rfl ?_
      refine wp_iload_n dX1_isOf_23 rfl rfl ?_
      refine wp_icmp_ne (t := 29) dX1_isOf_24 rfl rfl (fun h24_1 => ?_) (fun h24_1 => ?_)
      · refine wp_gets dX1_isOf_29 sRX1_31 rfl ?_
        refine wp_iload_n dX1_isOf_32 rfl rfl ?_
        refine wx_iald (j := 0) dX1_isOf_33 rfl rfl ⟨by decide, by decide⟩ (Nat.le_of_ble_eq_true rfl) rfl ?_
        rw [hA.1]
        refine wp_istore_n (l' := [_, _, some _, _]) dX1_isOf_34 rfl rfl ?_
        refine wp_iinc (l' := [_, _, _, some _]) (v := 1) dX1_isOf_35 rfl (by decide) rfl rfl ?_
        refine wp_goto (t := 7) dX1_isOf_38 rfl ?_
        refine wp_iload_n dX1_isOf_7 rfl rfl ?_
        refine wp_gets dX1_isOf_8 sRX1_31 rfl ?_
        refine wx_alen dX1_isOf_11 rfl rfl rfl rfl ?_
        rw [show lnf s.2.2.1 (1, 0, 0) = 6 from rfl]
        refine wp_icmp_ge (t := 41) dX1_isOf_12 rfl rfl (fun h12 => absurd h12 (by decide)) (fun h12 => ?_)
        refine wp_iload_n dX1_isOf_15 rfl rfl ?_
        refine wn_callS1d dX1_isOf_16 rRX1_35 (Nat.le_of_ble_eq_true rfl) rfl (Nat.le_of_ble_eq_true rfl) rfl (c7_isKind) ?_
        refine wp_if_eq_b (t := 41) dX1_isOf_19 rfl rfl (fun h19 => ?_) (fun h19 => absurd h19 (by decide))
        refine wp_iconst (v := 0) dX1_isOf_41 (by decide) rfl ?_
        refine wp_iret dX1_isOf_42 rfl (by decide) ?_
        refine ⟨_, _, rfl, rfl, (bI_f (fun z => ?_)).symm, rfl⟩
        rcases z with e | e | ⟨e, e2⟩ | ⟨e, e2⟩ <;> subst e <;> first | exact h24_0 (by decide) | exact h24_1 (by decide) | exact absurd e2 (by decide)
      · refine wp_iconst (v := 1) dX1_isOf_27 (by decide) rfl ?_
        refine wp_iret dX1_isOf_28 rfl (by decide) ?_
        subst h24_1
        exact ⟨_, _, rfl, rfl, (bI_t (by decide)).symm, rfl⟩
    · refine wp_iconst (v := 1) dX1_isOf_27 (by decide) rfl ?_
      refine wp_iret dX1_isOf_28 rfl (by decide) ?_
      subst h24_0
      exact ⟨_, _, rfl, rfl, (bI_t (by decide)).symm, rfl⟩
  · refine wp_aload_n dX1_isOf_0 rfl rfl ?_
    refine wn_getI dX1_isOf_1 fRX1_9 (o31 hi) rfl rfl ?_
    rw [hK]
    refine wp_istore_n (l' := [_, _, some _, _]) dX1_isOf_4 rfl rfl ?_
    refine wp_iconst (v := 0) dX1_isOf_5 (by decide) rfl ?_
    refine wp_istore_n (l' := [_, _, _, some _]) dX1_isOf_6 rfl rfl ?_
    refine wp_iload_n dX1_isOf_7 rfl rfl ?_
    refine wp_gets dX1_isOf_8 sRX1_31 rfl ?_
    refine wx_alen dX1_isOf_11 rfl rfl rfl rfl ?_
    rw [show lnf s.2.2.1 (1, 0, 0) = 6 from rfl]
    refine wp_icmp_ge (t := 41) dX1_isOf_12 rfl rfl (fun h12 => absurd h12 (by decide)) (fun h12 => ?_)
    refine wp_iload_n dX1_isOf_15 rfl rfl ?_
    refine wn_callS1d dX1_isOf_16 rRX1_35 (Nat.le_of_ble_eq_true rfl) rfl (Nat.le_of_ble_eq_true rfl) rfl (c7_isKind) ?_
    refine wp_if_eq_b (t := 41) dX1_isOf_19 rfl rfl (fun h19 => absurd h19 (by decide)) (fun h19 => ?_)
    refine wp_iload_n dX1_isOf_22 rfl rfl ?_
    refine wp_iload_n dX1_isOf_23 rfl rfl ?_
    refine wp_icmp_ne (t := 29) dX1_isOf_24 rfl rfl (fun h24_0 => ?_) (fun h24_0 => ?_)
    · refine wp_gets dX1_isOf_29 sRX1_31 rfl ?_
      refine wp_iload_n dX1_isOf_32 rfl rfl ?_
      refine wx_iald (j := 2) dX1_isOf_33 rfl rfl ⟨by decide, by decide⟩ (Nat.le_of_ble_eq_true rfl) rfl ?_
      rw [hA.2.2.1]
      refine wp_istore_n (l' := [_, _, some _, _]) dX1_isOf_34 rfl rfl ?_
      refine wp_iinc (l' := [_, _, _, some _]) (v := 1) dX1_isOf_35 rfl (by decide) rfl rfl ?_
      refine wp_goto (t := 7) dX1_isOf_38 rfl ?_
      refine wp_iload_n dX1_isOf_7 rfl rfl ?_
      refine wp_gets dX1_isOf_8 sRX1_31 rfl ?_
      refine wx_alen dX1_isOf_11 rfl rfl rfl rfl ?_
      rw [show lnf s.2.2.1 (1, 0, 0) = 6 from rfl]
      refine wp_icmp_ge (t := 41) dX1_isOf_12 rfl rfl (fun h12 => absurd h12 (by decide)) (fun h12 => ?_)
      refine wp_iload_n dX1_isOf_15 rfl rfl ?_
      refine wn_callS1d dX1_isOf_16 rRX1_35 (Nat.le_of_ble_eq_true rfl) rfl (Nat.le_of_ble_eq_true rfl) rfl (c7_isKind) ?_
      refine wp_if_eq_b (t := 41) dX1_isOf_19 rfl rfl (fun h19 => absurd h19 (by decide)) (fun h19 => ?_)
      refine wp_iload_n dX1_isOf_22 rfl rfl ?_
      refine wp_iload_n dX1_isOf_23 rfl rfl ?_
      refine wp_icmp_ne (t := 29) dX1_isOf_24 rfl rfl (fun h24_1 => ?_) (fun h24_1 => ?_)
      · refine wp_gets dX1_isOf_29 sRX1_31 rfl ?_
        refine wp_iload_n dX1_isOf_32 rfl rfl ?_
        refine wx_iald (j := 0) dX1_isOf_33 rfl rfl ⟨by decide, by decide⟩ (Nat.le_of_ble_eq_true rfl) rfl ?_
        rw [hA.1]
        refine wp_istore_n (l' := [_, _, some _, _]) dX1_isOf_34 rfl rfl ?_
        refine wp_iinc (l' := [_, _, _, some _]) (v := 1) dX1_isOf_35 rfl (by decide) rfl rfl ?_
        refine wp_goto (t := 7) dX1_isOf_38 rfl ?_
        refine wp_iload_n dX1_isOf_7 rfl rfl ?_
        refine wp_gets dX1_isOf_8 sRX1_31 rfl ?_
        refine wx_alen dX1_isOf_11 rfl rfl rfl rfl ?_
        rw [show lnf s.2.2.1 (1, 0, 0) = 6 from rfl]
        refine wp_icmp_ge (t := 41) dX1_isOf_12 rfl rfl (fun h12 => absurd h12 (by decide)) (fun h12 => ?_)
        refine wp_iload_n dX1_isOf_15 rfl rfl ?_
        refine wn_callS1d dX1_isOf_16 rRX1_35 (Nat.le_of_ble_eq_true rfl) rfl (Nat.le_of_ble_eq_true rfl) rfl (c7_isKind) ?_
        refine wp_if_eq_b (t := 41) dX1_isOf_19 rfl rfl (fun h19 => ?_) (fun h19 => absurd h19 (by decide))
        refine wp_iconst (v := 0) dX1_isOf_41 (by decide) rfl ?_
        refine wp_iret dX1_isOf_42 rfl (by decide) ?_
        refine ⟨_, _, rfl, rfl, (bI_f (fun z => ?_)).symm, rfl⟩
        rcases z with e | e | ⟨e, e2⟩ | ⟨e, e2⟩ <;> subst e <;> first | exact h24_0 (by decide) | exact h24_1 (by decide) | exact absurd e2 (by decide)
      · refine wp_iconst (v := 1) dX1_isOf_27 (by decide) rfl ?_
        refine wp_iret dX1_isOf_28 rfl (by decide) ?_
        subst h24_1
        exact ⟨_, _, rfl, rfl, (bI_t (by decide)).symm, rfl⟩
    · refine wp_iconst (v := 1) dX1_isOf_27 (by decide) rfl ?_
      refine wp_iret dX1_isOf_28 rfl (by decide) ?_
      subst h24_0
      exact ⟨_, _, rfl, rfl, (bI_t (by decide)).symm, rfl⟩
  · refine wp_aload_n dX1_isOf_0 rfl rfl ?_
    refine wn_getI dX1_isOf_1 fRX1_9 (o31 hi) rfl rfl ?_
    rw [hK]
    refine wp_istore_n (l' := [_, _, some _, _]) dX1_isOf_4 rfl rfl ?_
    refine wp_iconst (v := 0) dX1_isOf_5 (by decide) rfl ?_
    refine wp_istore_n (l' := [_, _, _, some _]) dX1_isOf_6 rfl rfl ?_
    refine wp_iload_n dX1_isOf_7 rfl rfl ?_
    refine wp_gets dX1_isOf_8 sRX1_31 rfl ?_
    refine wx_alen dX1_isOf_11 rfl rfl rfl rfl ?_
    rw [show lnf s.2.2.1 (1, 0, 0) = 6 from rfl]
    refine wp_icmp_ge (t := 41) dX1_isOf_12 rfl rfl (fun h12 => absurd h12 (by decide)) (fun h12 => ?_)
    refine wp_iload_n dX1_isOf_15 rfl rfl ?_
    refine wn_callS1d dX1_isOf_16 rRX1_35 (Nat.le_of_ble_eq_true rfl) rfl (Nat.le_of_ble_eq_true rfl) rfl (c7_isKind) ?_
    refine wp_if_eq_b (t := 41) dX1_isOf_19 rfl rfl (fun h19 => absurd h19 (by decide)) (fun h19 => ?_)
    refine wp_iload_n dX1_isOf_22 rfl rfl ?_
    refine wp_iload_n dX1_isOf_23 rfl rfl ?_
    refine wp_icmp_ne (t := 29) dX1_isOf_24 rfl rfl (fun h24_0 => ?_) (fun h24_0 => ?_)
    · refine wp_gets dX1_isOf_29 sRX1_31 rfl ?_
      refine wp_iload_n dX1_isOf_32 rfl rfl ?_
      refine wx_iald (j := 3) dX1_isOf_33 rfl rfl ⟨by decide, by decide⟩ (Nat.le_of_ble_eq_true rfl) rfl ?_
      rw [hA.2.2.2.1]
      refine wp_istore_n (l' := [_, _, some _, _]) dX1_isOf_34 rfl rfl ?_
      refine wp_iinc (l' := [_, _, _, some _]) (v := 1) dX1_isOf_35 rfl (by decide) rfl rfl ?_
      refine wp_goto (t := 7) dX1_isOf_38 rfl ?_
      refine wp_iload_n dX1_isOf_7 rfl rfl ?_
      refine wp_gets dX1_isOf_8 sRX1_31 rfl ?_
      refine wx_alen dX1_isOf_11 rfl rfl rfl rfl ?_
      rw [show lnf s.2.2.1 (1, 0, 0) = 6 from rfl]
      refine wp_icmp_ge (t := 41) dX1_isOf_12 rfl rfl (fun h12 => absurd h12 (by decide)) (fun h12 => ?_)
      refine wp_iload_n dX1_isOf_15 rfl rfl ?_
      refine wn_callS1d dX1_isOf_16 rRX1_35 (Nat.le_of_ble_eq_true rfl) rfl (Nat.le_of_ble_eq_true rfl) rfl (c7_isKind) ?_
      refine wp_if_eq_b (t := 41) dX1_isOf_19 rfl rfl (fun h19 => absurd h19 (by decide)) (fun h19 => ?_)
      refine wp_iload_n dX1_isOf_22 rfl rfl ?_
      refine wp_iload_n dX1_isOf_23 rfl rfl ?_
      refine wp_icmp_ne (t := 29) dX1_isOf_24 rfl rfl (fun h24_1 => ?_) (fun h24_1 => ?_)
      · refine wp_gets dX1_isOf_29 sRX1_31 rfl ?_
        refine wp_iload_n dX1_isOf_32 rfl rfl ?_
        refine wx_iald (j := 1) dX1_isOf_33 rfl rfl ⟨by decide, by decide⟩ (Nat.le_of_ble_eq_true rfl) rfl ?_
        rw [hA.2.1]
        refine wp_istore_n (l' := [_, _, some _, _]) dX1_isOf_34 rfl rfl ?_
        refine wp_iinc (l' := [_, _, _, some _]) (v := 1) dX1_isOf_35 rfl (by decide) rfl rfl ?_
        refine wp_goto (t := 7) dX1_isOf_38 rfl ?_
        refine wp_iload_n dX1_isOf_7 rfl rfl ?_
        refine wp_gets dX1_isOf_8 sRX1_31 rfl ?_
        refine wx_alen dX1_isOf_11 rfl rfl rfl rfl ?_
        rw [show lnf s.2.2.1 (1, 0, 0) = 6 from rfl]
        refine wp_icmp_ge (t := 41) dX1_isOf_12 rfl rfl (fun h12 => absurd h12 (by decide)) (fun h12 => ?_)
        refine wp_iload_n dX1_isOf_15 rfl rfl ?_
        refine wn_callS1d dX1_isOf_16 rRX1_35 (Nat.le_of_ble_eq_true rfl) rfl (Nat.le_of_ble_eq_true rfl) rfl (c7_isKind) ?_
        refine wp_if_eq_b (t := 41) dX1_isOf_19 rfl rfl (fun h19 => absurd h19 (by decide)) (fun h19 => ?_)
        refine wp_iload_n dX1_isOf_22 rfl rfl ?_
        refine wp_iload_n dX1_isOf_23 rfl rfl ?_
        refine wp_icmp_ne (t := 29) dX1_isOf_24 rfl rfl (fun h24_2 => ?_) (fun h24_2 => ?_)
        · refine wp_gets dX1_isOf_29 sRX1_31 rfl ?_
          refine wp_iload_n dX1_isOf_32 rfl rfl ?_
          refine wx_iald (j := 0) dX1_isOf_33 rfl rfl ⟨by decide, by decide⟩ (Nat.le_of_ble_eq_true rfl) rfl ?_
          rw [hA.1]
          refine wp_istore_n (l' := [_, _, some _, _]) dX1_isOf_34 rfl rfl ?_
          refine wp_iinc (l' := [_, _, _, some _]) (v := 1) dX1_isOf_35 rfl (by decide) rfl rfl ?_
          refine wp_goto (t := 7) dX1_isOf_38 rfl ?_
          refine wp_iload_n dX1_isOf_7 rfl rfl ?_
          refine wp_gets dX1_isOf_8 sRX1_31 rfl ?_
          refine wx_alen dX1_isOf_11 rfl rfl rfl rfl ?_
          rw [show lnf s.2.2.1 (1, 0, 0) = 6 from rfl]
          refine wp_icmp_ge (t := 41) dX1_isOf_12 rfl rfl (fun h12 => absurd h12 (by decide)) (fun h12 => ?_)
          refine wp_iload_n dX1_isOf_15 rfl rfl ?_
          refine wn_callS1d dX1_isOf_16 rRX1_35 (Nat.le_of_ble_eq_true rfl) rfl (Nat.le_of_ble_eq_true rfl) rfl (c7_isKind) ?_
          refine wp_if_eq_b (t := 41) dX1_isOf_19 rfl rfl (fun h19 => ?_) (fun h19 => absurd h19 (by decide))
          refine wp_iconst (v := 0) dX1_isOf_41 (by decide) rfl ?_
          refine wp_iret dX1_isOf_42 rfl (by decide) ?_
          refine ⟨_, _, rfl, rfl, (bI_f (fun z => ?_)).symm, rfl⟩
          rcases z with e | e | ⟨e, e2⟩ | ⟨e, e2⟩ <;> subst e <;> first | exact h24_0 (by decide) | exact h24_1 (by decide) | exact h24_2 (by decide) | exact absurd e2 (by decide)
        · refine wp_iconst (v := 1) dX1_isOf_27 (by decide) rfl ?_
          refine wp_iret dX1_isOf_28 rfl (by decide) ?_
          subst h24_2
          exact ⟨_, _, rfl, rfl, (bI_t (by decide)).symm, rfl⟩
      · refine wp_iconst (v := 1) dX1_isOf_27 (by decide) rfl ?_
        refine wp_iret dX1_isOf_28 rfl (by decide) ?_
        subst h24_1
        exact ⟨_, _, rfl, rfl, (bI_t (by decide)).symm, rfl⟩
    · refine wp_iconst (v := 1) dX1_isOf_27 (by decide) rfl ?_
      refine wp_iret dX1_isOf_28 rfl (by decide) ?_
      subst h24_0
      exact ⟨_, _, rfl, rfl, (bI_t (by decide)).symm, rfl⟩
  · refine wp_aload_n dX1_isOf_0 rfl rfl ?_
    refine wn_getI dX1_isOf_1 fRX1_9 (o31 hi) rfl rfl ?_
    rw [hK]
    refine wp_istore_n (l' := [_, _, some _, _]) dX1_isOf_4 rfl rfl ?_
    refine wp_iconst (v := 0) dX1_isOf_5 (by decide) rfl ?_
    refine wp_istore_n (l' := [_, _, _, some _]) dX1_isOf_6 rfl rfl ?_
    refine wp_iload_n dX1_isOf_7 rfl rfl ?_
    refine wp_gets dX1_isOf_8 sRX1_31 rfl ?_
    refine wx_alen dX1_isOf_11 rfl rfl rfl rfl ?_
    rw [show lnf s.2.2.1 (1, 0, 0) = 6 from rfl]
    refine wp_icmp_ge (t := 41) dX1_isOf_12 rfl rfl (fun h12 => absurd h12 (by decide)) (fun h12 => ?_)
    refine wp_iload_n dX1_isOf_15 rfl rfl ?_
    refine wn_callS1d dX1_isOf_16 rRX1_35 (Nat.le_of_ble_eq_true rfl) rfl (Nat.le_of_ble_eq_true rfl) rfl (c7_isKind) ?_
    refine wp_if_eq_b (t := 41) dX1_isOf_19 rfl rfl (fun h19 => absurd h19 (by decide)) (fun h19 => ?_)
    refine wp_iload_n dX1_isOf_22 rfl rfl ?_
    refine wp_iload_n dX1_isOf_23 rfl rfl ?_
    refine wp_icmp_ne (t := 29) dX1_isOf_24 rfl rfl (fun h24_0 => ?_) (fun h24_0 => ?_)
    · refine wp_gets dX1_isOf_29 sRX1_31 rfl ?_
      refine wp_iload_n dX1_isOf_32 rfl rfl ?_
      refine wx_iald (j := 4) dX1_isOf_33 rfl rfl ⟨by decide, by decide⟩ (Nat.le_of_ble_eq_true rfl) rfl ?_
      rw [hA.2.2.2.2.1]
      refine wp_istore_n (l' := [_, _, some _, _]) dX1_isOf_34 rfl rfl ?_
      refine wp_iinc (l' := [_, _, _, some _]) (v := 1) dX1_isOf_35 rfl (by decide) rfl rfl ?_
      refine wp_goto (t := 7) dX1_isOf_38 rfl ?_
      refine wp_iload_n dX1_isOf_7 rfl rfl ?_
      refine wp_gets dX1_isOf_8 sRX1_31 rfl ?_
      refine wx_alen dX1_isOf_11 rfl rfl rfl rfl ?_
      rw [show lnf s.2.2.1 (1, 0, 0) = 6 from rfl]
      refine wp_icmp_ge (t := 41) dX1_isOf_12 rfl rfl (fun h12 => absurd h12 (by decide)) (fun h12 => ?_)
      refine wp_iload_n dX1_isOf_15 rfl rfl ?_
      refine wn_callS1d dX1_isOf_16 rRX1_35 (Nat.le_of_ble_eq_true rfl) rfl (Nat.le_of_ble_eq_true rfl) rfl (c7_isKind) ?_
      refine wp_if_eq_b (t := 41) dX1_isOf_19 rfl rfl (fun h19 => absurd h19 (by decide)) (fun h19 => ?_)
      refine wp_iload_n dX1_isOf_22 rfl rfl ?_
      refine wp_iload_n dX1_isOf_23 rfl rfl ?_
      refine wp_icmp_ne (t := 29) dX1_isOf_24 rfl rfl (fun h24_1 => ?_) (fun h24_1 => ?_)
      · refine wp_gets dX1_isOf_29 sRX1_31 rfl ?_
        refine wp_iload_n dX1_isOf_32 rfl rfl ?_
        refine wx_iald (j := 2) dX1_isOf_33 rfl rfl ⟨by decide, by decide⟩ (Nat.le_of_ble_eq_true rfl) rfl ?_
        rw [hA.2.2.1]
        refine wp_istore_n (l' := [_, _, some _, _]) dX1_isOf_34 rfl rfl ?_
        refine wp_iinc (l' := [_, _, _, some _]) (v := 1) dX1_isOf_35 rfl (by decide) rfl rfl ?_
        refine wp_goto (t := 7) dX1_isOf_38 rfl ?_
        refine wp_iload_n dX1_isOf_7 rfl rfl ?_
        refine wp_gets dX1_isOf_8 sRX1_31 rfl ?_
        refine wx_alen dX1_isOf_11 rfl rfl rfl rfl ?_
        rw [show lnf s.2.2.1 (1, 0, 0) = 6 from rfl]
        refine wp_icmp_ge (t := 41) dX1_isOf_12 rfl rfl (fun h12 => absurd h12 (by decide)) (fun h12 => ?_)
        refine wp_iload_n dX1_isOf_15 rfl rfl ?_
        refine wn_callS1d dX1_isOf_16 rRX1_35 (Nat.le_of_ble_eq_true rfl) rfl (Nat.le_of_ble_eq_true rfl) rfl (c7_isKind) ?_
        refine wp_if_eq_b (t := 41) dX1_isOf_19 rfl rfl (fun h19 => absurd h19 (by decide)) (fun h19 => ?_)
        refine wp_iload_n dX1_isOf_22 rfl rfl ?_
        refine wp_iload_n dX1_isOf_23 rfl rfl ?_
        refine wp_icmp_ne (t := 29) dX1_isOf_24 rfl rfl (fun h24_2 => ?_) (fun h24_2 => ?_)
        · refine wp_gets dX1_isOf_29 sRX1_31 rfl ?_
          refine wp_iload_n dX1_isOf_32 rfl rfl ?_
          refine wx_iald (j := 0) dX1_isOf_33 rfl rfl ⟨by decide, by decide⟩ (Nat.le_of_ble_eq_true rfl) rfl ?_
          rw [hA.1]
          refine wp_istore_n (l' := [_, _, some _, _]) dX1_isOf_34 rfl rfl ?_
          refine wp_iinc (l' := [_, _, _, some _]) (v := 1) dX1_isOf_35 rfl (by decide) rfl rfl ?_
          refine wp_goto (t := 7) dX1_isOf_38 rfl ?_
          refine wp_iload_n dX1_isOf_7 rfl rfl ?_
          refine wp_gets dX1_isOf_8 sRX1_31 rfl ?_
          refine wx_alen dX1_isOf_11 rfl rfl rfl rfl ?_
          rw [show lnf s.2.2.1 (1, 0, 0) = 6 from rfl]
          refine wp_icmp_ge (t := 41) dX1_isOf_12 rfl rfl (fun h12 => absurd h12 (by decide)) (fun h12 => ?_)
          refine wp_iload_n dX1_isOf_15 rfl rfl ?_
          refine wn_callS1d dX1_isOf_16 rRX1_35 (Nat.le_of_ble_eq_true rfl) rfl (Nat.le_of_ble_eq_true rfl) rfl (c7_isKind) ?_
          refine wp_if_eq_b (t := 41) dX1_isOf_19 rfl rfl (fun h19 => ?_) (fun h19 => absurd h19 (by decide))
          refine wp_iconst (v := 0) dX1_isOf_41 (by decide) rfl ?_
          refine wp_iret dX1_isOf_42 rfl (by decide) ?_
          refine ⟨_, _, rfl, rfl, (bI_f (fun z => ?_)).symm, rfl⟩
          rcases z with e | e | ⟨e, e2⟩ | ⟨e, e2⟩ <;> subst e <;> first | exact h24_0 (by decide) | exact h24_1 (by decide) | exact h24_2 (by decide) | exact absurd e2 (by decide)
        · refine wp_iconst (v := 1) dX1_isOf_27 (by decide) rfl ?_
          refine wp_iret dX1_isOf_28 rfl (by decide) ?_
          subst h24_2
          exact ⟨_, _, rfl, rfl, (bI_t (by decide)).symm, rfl⟩
      · refine wp_iconst (v := 1) dX1_isOf_27 (by decide) rfl ?_
        refine wp_iret dX1_isOf_28 rfl (by decide) ?_
        subst h24_1
        exact ⟨_, _, rfl, rfl, (bI_t (by decide)).symm, rfl⟩
    · refine wp_iconst (v := 1) dX1_isOf_27 (by decide) rfl ?_
      refine wp_iret dX1_isOf_28 rfl (by decide) ?_
      subst h24_0
      exact ⟨_, _, rfl, rfl, (bI_t (by decide)).symm, rfl⟩
  · refine wp_aload_n dX1_isOf_0 rfl rfl ?_
    refine wn_getI dX1_isOf_1 fRX1_9 (o31 hi) rfl rfl ?_
    rw [hK]
    refine wp_istore_n (l' := [_, _, some _, _]) dX1_isOf_4 rfl rfl ?_
    refine wp_iconst (v := 0) dX1_isOf_5 (by decide) rfl ?_
    refine wp_istore_n (l' := [_, _, _, some _]) dX1_isOf_6 rfl rfl ?_
    refine wp_iload_n dX1_isOf_7 rfl rfl ?_
    refine wp_gets dX1_isOf_8 sRX1_31 rfl ?_
    refine wx_alen dX1_isOf_11 rfl rfl rfl rfl ?_
    rw [show lnf s.2.2.1 (1, 0, 0) = 6 from rfl]
    refine wp_icmp_ge (t := 41) dX1_isOf_12 rfl rfl (fun h12 => absurd h12 (by decide)) (fun h12 => ?_)
    refine wp_iload_n dX1_isOf_15 rfl rfl ?_
    refine wn_callS1d dX1_isOf_16 rRX1_35 (Nat.le_of_ble_eq_true rfl) rfl (Nat.le_of_ble_eq_true rfl) rfl (c7_isKind) ?_
    refine wp_if_eq_b (t := 41) dX1_isOf_19 rfl rfl (fun h19 => absurd h19 (by decide)) (fun h19 => ?_)
    refine wp_iload_n dX1_isOf_22 rfl rfl ?_
    refine wp_iload_n dX1_isOf_23 rfl rfl ?_
    refine wp_icmp_ne (t := 29) dX1_isOf_24 rfl rfl (fun h24_0 => ?_) (fun h24_0 => ?_)
    · refine wp_gets dX1_isOf_29 sRX1_31 rfl ?_
      refine wp_iload_n dX1_isOf_32 rfl rfl ?_
      refine wx_iald (j := 5) dX1_isOf_33 rfl rfl ⟨by decide, by decide⟩ (Nat.le_of_ble_eq_true rfl) rfl ?_
      rw [hA.2.2.2.2.2]
      refine wp_istore_n (l' := [_, _, some _, _]) dX1_isOf_34 rfl rfl ?_
      refine wp_iinc (l' := [_, _, _, some _]) (v := 1) dX1_isOf_35 rfl (by decide) rfl rfl ?_
      refine wp_goto (t := 7) dX1_isOf_38 rfl ?_
      refine wp_iload_n dX1_isOf_7 rfl rfl ?_
      refine wp_gets dX1_isOf_8 sRX1_31 rfl ?_
      refine wx_alen dX1_isOf_11 rfl rfl rfl rfl ?_
      rw [show lnf s.2.2.1 (1, 0, 0) = 6 from rfl]
      refine wp_icmp_ge (t := 41) dX1_isOf_12 rfl rfl (fun h12 => absurd h12 (by decide)) (fun h12 => ?_)
      refine wp_iload_n dX1_isOf_15 rfl rfl ?_
      refine wn_callS1d dX1_isOf_16 rRX1_35 (Nat.le_of_ble_eq_true rfl) rfl (Nat.le_of_ble_eq_true rfl) rfl (c7_isKind) ?_
      refine wp_if_eq_b (t := 41) dX1_isOf_19 rfl rfl (fun h19 => absurd h19 (by decide)) (fun h19 => ?_)
      refine wp_iload_n dX1_isOf_22 rfl rfl ?_
      refine wp_iload_n dX1_isOf_23 rfl rfl ?_
      refine wp_icmp_ne (t := 29) dX1_isOf_24 rfl rfl (fun h24_1 => ?_) (fun h24_1 => ?_)
      · refine wp_gets dX1_isOf_29 sRX1_31 rfl ?_
        refine wp_iload_n dX1_isOf_32 rfl rfl ?_
        refine wx_iald (j := 0) dX1_isOf_33 rfl rfl ⟨by decide, by decide⟩ (Nat.le_of_ble_eq_true rfl) rfl ?_
        rw [hA.1]
        refine wp_istore_n (l' := [_, _, some _, _]) dX1_isOf_34 rfl rfl ?_
        refine wp_iinc (l' := [_, _, _, some _]) (v := 1) dX1_isOf_35 rfl (by decide) rfl rfl ?_
        refine wp_goto (t := 7) dX1_isOf_38 rfl ?_
        refine wp_iload_n dX1_isOf_7 rfl rfl ?_
        refine wp_gets dX1_isOf_8 sRX1_31 rfl ?_
        refine wx_alen dX1_isOf_11 rfl rfl rfl rfl ?_
        rw [show lnf s.2.2.1 (1, 0, 0) = 6 from rfl]
        refine wp_icmp_ge (t := 41) dX1_isOf_12 rfl rfl (fun h12 => absurd h12 (by decide)) (fun h12 => ?_)
        refine wp_iload_n dX1_isOf_15 rfl rfl ?_
        refine wn_callS1d dX1_isOf_16 rRX1_35 (Nat.le_of_ble_eq_true rfl) rfl (Nat.le_of_ble_eq_true rfl) rfl (c7_isKind) ?_
        refine wp_if_eq_b (t := 41) dX1_isOf_19 rfl rfl (fun h19 => ?_) (fun h19 => absurd h19 (by decide))
        refine wp_iconst (v := 0) dX1_isOf_41 (by decide) rfl ?_
        refine wp_iret dX1_isOf_42 rfl (by decide) ?_
        refine ⟨_, _, rfl, rfl, (bI_f (fun z => ?_)).symm, rfl⟩
        rcases z with e | e | ⟨e, e2⟩ | ⟨e, e2⟩ <;> subst e <;> first | exact h24_0 (by decide) | exact h24_1 (by decide) | exact absurd e2 (by decide)
      · refine wp_iconst (v := 1) dX1_isOf_27 (by decide) rfl ?_
        refine wp_iret dX1_isOf_28 rfl (by decide) ?_
        subst h24_1
        exact ⟨_, _, rfl, rfl, (bI_t (by decide)).symm, rfl⟩
    · refine wp_iconst (v := 1) dX1_isOf_27 (by decide) rfl ?_
      refine wp_iret dX1_isOf_28 rfl (by decide) ?_
      subst h24_0
      exact ⟨_, _, rfl, rfl, (bI_t (by decide)).symm, rfl⟩
theorem c8_isUnder {s : Sn} {k y : Int32} : Ca d MX8_isUnder [vI k, vI y] (hN s) (Pd (bI (und k y)) s) := by
  change Wp _ _ 0 [some _, some _] [] _ _
  refine wp_iload_n dX8_isUnder_0 rfl rfl ?_
  refine wp_if_eq (t := 29) dX8_isUnder_1 rfl rfl (fun h1 => ?_) (fun h1 => ?_)
  · refine wp_iconst (v := 1) dX8_isUnder_29 (by decide) rfl ?_
    refine wp_goto (t := 34) dX8_isUnder_30 rfl ?_
    refine wp_iret dX8_isUnder_34 rfl (by decide) ?_
    exact ⟨_, _, rfl, rfl, (bI_t (Or.inl h1)).symm, rfl⟩
  · refine wp_iload_n dX8_isUnder_4 rfl rfl ?_
    refine wp_iload_n dX8_isUnder_5 rfl rfl ?_
    refine wp_icmp_eq (t := 29) dX8_isUnder_6 rfl rfl (fun h6 => ?_) (fun h6 => ?_)
    · refine wp_iconst (v := 1) dX8_isUnder_29 (by decide) rfl ?_
      refine wp_goto (t := 34) dX8_isUnder_30 rfl ?_
      refine wp_iret dX8_isUnder_34 rfl (by decide) ?_
      exact ⟨_, _, rfl, rfl, (bI_t (Or.inr (Or.inl h6))).symm, rfl⟩
    · refine wp_iload_n dX8_isUnder_9 rfl rfl ?_
      refine wp_iconst (v := 1) dX8_isUnder_10 (by decide) rfl ?_
      refine wp_icmp_ne (t := 19) dX8_isUnder_11 rfl rfl (fun h11 => ?_) (fun h11 => ?_)
      · refine wp_iload_n dX8_isUnder_19 rfl rfl ?_
        refine wp_iconst (v := 2) dX8_isUnder_20 (by decide) rfl ?_
        refine wp_icmp_ne (t := 33) dX8_isUnder_21 rfl rfl (fun h21 => ?_) (fun h21 => ?_)
        · refine wp_iconst (v := 0) dX8_isUnder_33 (by decide) rfl ?_
          refine wp_iret dX8_isUnder_34 rfl (by decide) ?_
          exact ⟨_, _, rfl, rfl, (bI_f (fun z => z.elim h1 (fun z => z.elim h6 (fun z => z.elim (fun e => h11 e.1) (fun e => h21 e.1))))).symm, rfl⟩
        · refine wp_iload_n dX8_isUnder_24 rfl rfl ?_
          refine wp_iconst (v := 4) dX8_isUnder_25 (by decide) rfl ?_
          refine wp_icmp_ne (t := 33) dX8_isUnder_26 rfl rfl (fun h26 => ?_) (fun h26 => ?_)
          · refine wp_iconst (v := 0) dX8_isUnder_33 (by decide) rfl ?_
            refine wp_iret dX8_isUnder_34 rfl (by decide) ?_
            exact ⟨_, _, rfl, rfl, (bI_f (fun z => z.elim h1 (fun z => z.elim h6 (fun z => z.elim (fun e => h11 e.1) (fun e => h26 e.2))))).symm, rfl⟩
          · refine wp_iconst (v := 1) dX8_isUnder_29 (by decide) rfl ?_
            refine wp_goto (t := 34) dX8_isUnder_30 rfl ?_
            refine wp_iret dX8_isUnder_34 rfl (by decide) ?_
            exact ⟨_, _, rfl, rfl, (bI_t (Or.inr (Or.inr (Or.inr ⟨h21, h26⟩)))).symm, rfl⟩
      · refine wp_iload_n dX8_isUnder_14 rfl rfl ?_
        refine wp_iconst (v := 3) dX8_isUnder_15 (by decide) rfl ?_
        refine wp_icmp_eq (t := 29) dX8_isUnder_16 rfl rfl (fun h16 => ?_) (fun h16 => ?_)
        · refine wp_iconst (v := 1) dX8_isUnder_29 (by decide) rfl ?_
          refine wp_goto (t := 34) dX8_isUnder_30 rfl ?_
          refine wp_iret dX8_isUnder_34 rfl (by decide) ?_
          exact ⟨_, _, rfl, rfl, (bI_t (Or.inr (Or.inr (Or.inl ⟨h11, h16⟩)))).symm, rfl⟩
        · refine wp_iload_n dX8_isUnder_19 rfl rfl ?_
          refine wp_iconst (v := 2) dX8_isUnder_20 (by decide) rfl ?_
          refine wp_icmp_ne (t := 33) dX8_isUnder_21 rfl rfl (fun h21 => ?_) (fun h21 => ?_)
          · refine wp_iconst (v := 0) dX8_isUnder_33 (by decide) rfl ?_
            refine wp_iret dX8_isUnder_34 rfl (by decide) ?_
            exact ⟨_, _, rfl, rfl, (bI_f (fun z => z.elim h1 (fun z => z.elim h6 (fun z => z.elim (fun e => h16 e.2) (fun e => h21 e.1))))).symm, rfl⟩
          · refine wp_iload_n dX8_isUnder_24 rfl rfl ?_
            refine wp_iconst (v := 4) dX8_isUnder_25 (by decide) rfl ?_
            refine wp_icmp_ne (t := 33) dX8_isUnder_26 rfl rfl (fun h26 => ?_) (fun h26 => ?_)
            · refine wp_iconst (v := 0) dX8_isUnder_33 (by decide) rfl ?_
              refine wp_iret dX8_isUnder_34 rfl (by decide) ?_
              exact ⟨_, _, rfl, rfl, (bI_f (fun z => z.elim h1 (fun z => z.elim h6 (fun z => z.elim (fun e => h16 e.2) (fun e => h26 e.2))))).symm, rfl⟩
            · refine wp_iconst (v := 1) dX8_isUnder_29 (by decide) rfl ?_
              refine wp_goto (t := 34) dX8_isUnder_30 rfl ?_
              refine wp_iret dX8_isUnder_34 rfl (by decide) ?_
              exact ⟨_, _, rfl, rfl, (bI_t (Or.inr (Or.inr (Or.inr ⟨h21, h26⟩)))).symm, rfl⟩
/-- kinds are kinds -/
def KD (f : Fl) (c : Nat) : Prop := ∀ g, g < c → ∃ k, k ≤ 5 ∧ f (45 + 5 * g + 0) = nI k
abbrev asO (c : Nat) (x y : Int32) : Prop := (0 ≤ x ∧ x ≤ nI c - 1) ∧ (0 ≤ y ∧ y ≤ 5)
def asA (f : Fl) (c : Nat) (x y : Int32) : Int32 := if asO c x y then (if und (f (45 + 5 * x.toNatClampNeg + 0)) y then f (45 + 5 * x.toNatClampNeg + 2) else -1000000012) else -1000000001
theorem asA_y {f : Fl} {c g : Nat} {y : Int32} (h : asO c (nI g) y) (hg : g < 12) : asA f c (nI g) y = if und (f (45 + 5 * g + 0)) y then f (45 + 5 * g + 2) else -1000000012 := by
  unfold asA
  rw [if_pos h, nI_clamp (by omega)]
theorem c8_as {s : Sn} {c : Nat} {x y : Int32} (hc : c ≤ 12) (h1 : s.1 (41, 0, 0) 1 = nI c) : Ca (d + 2) MX8_as [vR 40 0 0, vI x, vI y] (hN s) (Pd (asA (s.1 (41, 0, 0)) c x y) s) := by
  change Wp _ _ 0 [some _, some _, some _] [] _ _
  refine wp_aload_n dX8_as_0 rfl rfl ?_
  refine wp_iload_n dX8_as_1 rfl rfl ?_
  refine wn_callV1d dX8_as_2 rRX8_103 (rcv_of o40 rfl) (Nat.le_of_ble_eq_true rfl) rfl (Nat.le_of_ble_eq_true rfl) rfl (c8_isLog) ?_
  rw [h1]
  refine wp_if_eq_b (t := 17) dX8_as_5 rfl rfl (fun h5 => ?_) (fun h5 => ?_)
  · refine wp_ldc dX8_as_17 kRX8_83 rfl ?_
    refine wp_iret dX8_as_19 rfl rfl ?_
    exact ⟨_, _, rfl, rfl, (if_neg (fun z => h5 z.1)).symm, rfl⟩
  · obtain ⟨g, hg, rfl⟩ := log_nat hc h5
    have hg12 : g < 12 := by omega
    refine wp_iload_n dX8_as_8 rfl rfl ?_
    refine wp_iconst (v := 0) dX8_as_9 (by decide) rfl ?_
    refine wp_iconst (v := 5) dX8_as_10 (by decide) rfl ?_
    refine wn_callS3d dX8_as_11 rRX8_75 (Nat.le_of_ble_eq_true rfl) rfl rfl rfl (Nat.le_of_ble_eq_true rfl) rfl (c8_in) ?_
    refine wp_if_ne_b (t := 20) dX8_as_14 rfl rfl (fun h14 => ?_) (fun h14 => ?_)
    · refine wp_aload_n dX8_as_20 rfl rfl ?_
      refine wp_iload_n dX8_as_21 rfl rfl ?_
      refine wp_iconst (v := 0) dX8_as_22 (by decide) rfl ?_
      refine wn_callV2d dX8_as_23 rRX8_93 (rcv_of o40 rfl) (Nat.le_of_ble_eq_true rfl) rfl rfl (Nat.le_of_ble_eq_true rfl) rfl (c8_of (j := g) (w := 0) hg12 (by decide)) ?_
      refine wp_iload_n dX8_as_26 rfl rfl ?_
      refine wn_callS2d dX8_as_27 rRX8_116 (Nat.le_of_ble_eq_true rfl) rfl rfl (Nat.le_of_ble_eq_true rfl) rfl (c8_isUnder) ?_
      refine wp_if_eq_b (t := 42) dX8_as_30 rfl rfl (fun h30 => ?_) (fun h30 => ?_)
      · refine wp_ldc dX8_as_42 kRX8_120 rfl ?_
        refine wp_iret dX8_as_44 rfl rfl ?_
        refine ⟨_, _, rfl, rfl, ?_, rfl⟩
        rw [asA_y ⟨h5, h14⟩ hg12, if_neg h30]
      · refine wp_aload_n dX8_as_33 rfl rfl ?_
        refine wp_iload_n dX8_as_34 rfl rfl ?_
        refine wp_iconst (v := 2) dX8_as_35 (by decide) rfl ?_
        refine wn_callV2d dX8_as_36 rRX8_93 (rcv_of o40 rfl) (Nat.le_of_ble_eq_true rfl) rfl rfl (Nat.le_of_ble_eq_true rfl) rfl (c8_of (j := g) (w := 2) hg12 (by decide)) ?_
        refine wp_goto (t := 44) dX8_as_39 rfl ?_
        refine wp_iret dX8_as_44 rfl rfl ?_
        refine ⟨_, _, rfl, rfl, ?_, rfl⟩
        rw [asA_y ⟨h5, h14⟩ hg12, if_pos h30]
    · refine wp_ldc dX8_as_17 kRX8_83 rfl ?_
      refine wp_iret dX8_as_19 rfl rfl ?_
      exact ⟨_, _, rfl, rfl, (if_neg (fun z => h14 z.2)).symm, rfl⟩
theorem c7_as {s : Sn} {f : Fl} {c : Nat} {x y : Int32} (hV : RV s 0 f c) (hA : AB s) (hD : KD f c) : Ca (d + 3) MX7_as [vR 10 0 0, vI x, vI y] (hN s) (Pd (asA f c x y) s) := by
  change Wp _ _ 0 [some _, some _, some _] [] _ _
  have hc := hV.2.2.2
  have hlc : s.1 (11, 0, 0) 6 = nI c := (hV.1.sc 1 (by decide)).trans hV.2.2.1
  have hcn : cn f = c := by unfold cn; rw [hV.2.2.1, nI_clamp (by omega)]
  refine wp_aload_n dX7_as_0 rfl rfl ?_
  refine wn_getR dX7_as_1 fRX7_10 o10 rfl rfl rfl ?_
  refine wp_iload_n dX7_as_4 rfl rfl ?_
  refine wn_callV1d dX7_as_5 rRX7_77 (rcv_of (o11 (by decide)) rfl) (Nat.le_of_ble_eq_true rfl) rfl (Nat.le_of_ble_eq_true rfl) rfl (c3_hasLog (by decide)) ?_
  refine wp_if_eq_b (t := 18) dX7_as_8 rfl rfl (fun h8 => ?_) (fun h8 => ?_)
  · refine wp_ldc dX7_as_18 kRX7_68 rfl ?_
    refine wp_iret dX7_as_20 rfl rfl ?_
    exact ⟨_, _, rfl, rfl, (if_neg (fun z => by obtain ⟨g, hg, rfl⟩ := log_nat hc z.1; exact h8 ⟨by rw [hlc]; exact z.1, (nI_ltI (b := 12) (by omega) (by omega)).mpr (by omega)⟩)).symm, rfl⟩
  · obtain ⟨g, hg, rfl⟩ := log_nat hc (by rw [← hlc]; exact h8.1)
    have hg12 : g < 12 := by omega
    refine wp_iload_n dX7_as_11 rfl rfl ?_
    refine wn_callS1d dX7_as_12 rRX7_58 (Nat.le_of_ble_eq_true rfl) rfl (Nat.le_of_ble_eq_true rfl) rfl (c7_isKind) ?_
    refine wp_if_ne_b (t := 21) dX7_as_15 rfl rfl (fun h15 => ?_) (fun h15 => ?_)
    · obtain ⟨k, hk5, hk⟩ := hD g hg
      refine wp_aload_n dX7_as_21 rfl rfl ?_
      refine wn_getR dX7_as_22 fRX7_10 o10 rfl rfl rfl ?_
      refine wn_getR dX7_as_25 fRX7_80 (o11 (by decide)) rfl rfl rfl ?_
      refine wp_iload_n dX7_as_28 rfl rfl ?_
      refine wn_aald13 dX7_as_29 (by decide) (nIx rfl (by omega)) hg12 rfl ?_
      refine wp_iload_n dX7_as_30 rfl rfl ?_
      refine wn_callV1d dX7_as_31 rRX7_120 (rcv_of (o12 (by decide) hg12) rfl) (Nat.le_of_ble_eq_true rfl) rfl (Nat.le_of_ble_eq_true rfl) rfl (c1_isOf (k := k) (by decide) hg12 hA hk5 (by rw [← hk]; exact hV.1.lg (by omega) hg12 (by decide))) ?_
      refine wp_if_eq_b (t := 52) dX7_as_34 rfl rfl (fun h34 => ?_) (fun h34 => ?_)
      · refine wp_ldc dX7_as_52 kRX7_123 rfl ?_
        refine wp_iret dX7_as_54 rfl rfl ?_
        refine ⟨_, _, rfl, rfl, ?_, rfl⟩
        rw [asA_y ⟨nat_log hc hg, h15⟩ hg12, hk, if_neg h34]
      · refine wp_aload_n dX7_as_37 rfl rfl ?_
        refine wn_getR dX7_as_38 fRX7_10 o10 rfl rfl rfl ?_
        refine wn_getR dX7_as_41 fRX7_80 (o11 (by decide)) rfl rfl rfl ?_
        refine wp_iload_n dX7_as_44 rfl rfl ?_
        refine wn_aald13 dX7_as_45 (by decide) (nIx rfl (by omega)) hg12 rfl ?_
        refine wn_getI dX7_as_46 fRX7_92 (o12 (by decide) hg12) rfl rfl ?_
        refine wp_goto (t := 54) dX7_as_49 rfl ?_
        refine wp_iret dX7_as_54 rfl rfl ?_
        refine ⟨_, _, rfl, rfl, ?_, rfl⟩
        rw [asA_y ⟨nat_log hc hg, h15⟩ hg12, hk, if_pos h34]
        exact hV.1.lg (by omega) hg12 (by decide)
    · refine wp_ldc dX7_as_18 kRX7_68 rfl ?_
      refine wp_iret dX7_as_20 rfl rfl ?_
      exact ⟨_, _, rfl, rfl, (if_neg (fun z => h15 z.2)).symm, rfl⟩
abbrev lyO (c : Nat) (x y : Int32) : Prop := (0 ≤ x ∧ x ≤ nI c - 1) ∧ ((0 ≤ y ∧ y ≤ 11) ∨ y = 13)
def lyA (f : Fl) (c : Nat) (x y : Int32) : Int32 := if lyO c x y then (if f (45 + 5 * x.toNatClampNeg + 3) = 12 then -1000000002 else f (45 + 5 * x.toNatClampNeg + 3)) else -1000000001
def lyF (f : Fl) (c : Nat) (x y : Int32) : Fl := if lyO c x y ∧ ¬ f (45 + 5 * x.toNatClampNeg + 3) = 12 then upd f (45 + 5 * x.toNatClampNeg + 3) y else f
theorem ly_no {f : Fl} {c : Nat} {x y : Int32} (h : ¬ lyO c x y) : lyA f c x y = -1000000001 ∧ lyF f c x y = f := ⟨if_neg h, if_neg (fun z => h z.1)⟩
theorem ly_12 {f : Fl} {c g : Nat} {y : Int32} (h : lyO c (nI g) y) (hg : g < 12) (h2 : f (45 + 5 * g + 3) = 12) : lyA f c (nI g) y = -1000000002 ∧ lyF f c (nI g) y = f := by
  unfold lyA lyF
  rw [if_pos h, nI_clamp (by omega), if_pos h2, if_neg (fun z => z.2 h2)]
  exact ⟨rfl, rfl⟩
theorem ly_yes {f : Fl} {c g : Nat} {y : Int32} (h : lyO c (nI g) y) (hg : g < 12) (h2 : ¬ f (45 + 5 * g + 3) = 12) : lyA f c (nI g) y = f (45 + 5 * g + 3) ∧ lyF f c (nI g) y = upd f (45 + 5 * g + 3) y := by
  unfold lyA lyF
  rw [if_pos h, nI_clamp (by omega), if_neg h2, if_pos ⟨h, h2⟩]
  exact ⟨rfl, rfl⟩
theorem ix_l3 {j : Nat} : (45 : Int32) + 5 * nI j + 3 = nI (45 + 5 * j + 3) := ix_l (w := 3)
theorem le11 {y : Int32} : (0 ≤ y ∧ y < 12) ↔ (0 ≤ y ∧ y ≤ 11) := by
  constructor
  · rintro ⟨h1, h2⟩
    exact ⟨h1, by obtain ⟨k, hk, rfl⟩ := nI_of (Int32.not_lt.mpr h1); have := (nI_ltI (b := 12) hk (by decide)).mp h2; exact (nI_leI (b := 11) hk (by decide)).mpr (by omega)⟩
  · rintro ⟨h1, h2⟩
    exact ⟨h1, by obtain ⟨k, hk, rfl⟩ := nI_of (Int32.not_lt.mpr h1); have := (nI_leI (b := 11) hk (by decide)).mp h2; exact (nI_ltI (b := 12) hk (by decide)).mpr (by omega)⟩
theorem ly_13 {y : Int32} (h : (0 ≤ y ∧ y ≤ 11) ∨ y = 13) : ¬ y = 12 := fun e => by
  subst e
  exact absurd h (by decide)
theorem c8_lays {s : Sn} {c : Nat} {x y : Int32} (hc : c ≤ 12) (h1 : s.1 (41, 0, 0) 1 = nI c) : Ca (d + 2) MX8_lays [vR 40 0 0, vI x, vI y] (hN s) (Pv fun z t => z = lyA (s.1 (41, 0, 0)) c x y ∧ t.1 (41, 0, 0) = lyF (s.1 (41, 0, 0)) c x y ∧ Fr [(41, 0, 0)] s t) := by
  change Wp _ _ 0 [some _, some _, some _] [] _ _
  refine wp_aload_n dX8_lays_0 rfl rfl ?_
  refine wp_iload_n dX8_lays_1 rfl rfl ?_
  refine wn_callV1d dX8_lays_2 rRX8_103 (rcv_of o40 rfl) (Nat.le_of_ble_eq_true rfl) rfl (Nat.le_of_ble_eq_true rfl) rfl (c8_isLog) ?_
  rw [h1]
  refine wp_if_eq_b (t := 21) dX8_lays_5 rfl rfl (fun h5 => ?_) (fun h5 => ?_)
  · refine wp_ldc dX8_lays_21 kRX8_83 rfl ?_
    refine wp_iret dX8_lays_23 rfl rfl ?_
    obtain ⟨e1, e2⟩ := ly_no (f := (s.1 (41, 0, 0))) (c := c) (x := x) (y := y) (fun z => h5 z.1)
    exact ⟨_, _, rfl, rfl, e1.symm, e2.symm, Fr.rf⟩
  · obtain ⟨g, hg, rfl⟩ := log_nat hc h5
    have hg12 : g < 12 := by omega
    refine wp_iload_n dX8_lays_8 rfl rfl ?_
    refine wn_callS1d dX8_lays_9 rRX8_124 (Nat.le_of_ble_eq_true rfl) rfl (Nat.le_of_ble_eq_true rfl) rfl (c8_isReach) ?_
    refine wp_if_ne_b (t := 24) dX8_lays_12 rfl rfl (fun h12 => ?_) (fun h12 => ?_)
    · refine wp_aload_n dX8_lays_24 rfl rfl ?_
      refine wp_iload_n dX8_lays_25 rfl rfl ?_
      refine wp_iconst (v := 3) dX8_lays_26 (by decide) rfl ?_
      refine wn_callV2d dX8_lays_27 rRX8_93 (rcv_of o40 rfl) (Nat.le_of_ble_eq_true rfl) rfl rfl (Nat.le_of_ble_eq_true rfl) rfl (c8_of (j := g) (w := 3) hg12 (by decide)) ?_
      refine wp_bipush (v := 12) dX8_lays_30 (by decide) rfl ?_
      refine wp_icmp_ne (t := 40) dX8_lays_32 rfl rfl (fun h32 => ?_) (fun h32 => ?_)
      · refine wp_aload_n dX8_lays_40 rfl rfl ?_
        refine wp_bipush (v := 45) dX8_lays_41 (by decide) rfl ?_
        refine wp_iconst (v := 5) dX8_lays_43 (by decide) rfl ?_
        refine wp_iload_n dX8_lays_44 rfl rfl ?_
        refine wp_imul dX8_lays_45 rfl ?_
        refine wp_iadd dX8_lays_46 rfl ?_
        refine wp_iconst (v := 3) dX8_lays_47 (by decide) rfl ?_
        refine wp_iadd dX8_lays_48 rfl ?_
        refine wp_iload_n dX8_lays_49 rfl rfl ?_
        rw [ix_l3]
        refine wn_callV2d dX8_lays_50 rRX8_121 (rcv_of o40 rfl) (Nat.le_of_ble_eq_true rfl) rfl rfl (Nat.le_of_ble_eq_true rfl) rfl (c8_becomes (k := 45 + 5 * g + 3) (by omega)) ?_
        refine wp_iret dX8_lays_53 rfl rfl ?_
        obtain ⟨e1, e2⟩ := ly_yes (f := (s.1 (41, 0, 0))) (c := c) (g := g) (y := y) ⟨h5, Or.inl h12⟩ hg12 h32
        refine ⟨_, _, rfl, rfl, e1.symm, ?_, Fr.rf.pt (by decide)⟩
        rw [sI_row]; exact e2.symm
      · refine wp_ldc dX8_lays_35 kRX8_127 rfl ?_
        refine wp_goto (t := 53) dX8_lays_37 rfl ?_
        refine wp_iret dX8_lays_53 rfl rfl ?_
        obtain ⟨e1, e2⟩ := ly_12 (f := (s.1 (41, 0, 0))) (c := c) (g := g) (y := y) ⟨h5, Or.inl h12⟩ hg12 h32
        exact ⟨_, _, rfl, rfl, e1.symm, e2.symm, Fr.rf⟩
    · refine wp_iload_n dX8_lays_15 rfl rfl ?_
      refine wp_bipush (v := 13) dX8_lays_16 (by decide) rfl ?_
      refine wp_icmp_eq (t := 24) dX8_lays_18 rfl rfl (fun h18 => ?_) (fun h18 => ?_)
      · refine wp_aload_n dX8_lays_24 rfl rfl ?_
        refine wp_iload_n dX8_lays_25 rfl rfl ?_
        refine wp_iconst (v := 3) dX8_lays_26 (by decide) rfl ?_
        refine wn_callV2d dX8_lays_27 rRX8_93 (rcv_of o40 rfl) (Nat.le_of_ble_eq_true rfl) rfl rfl (Nat.le_of_ble_eq_true rfl) rfl (c8_of (j := g) (w := 3) hg12 (by decide)) ?_
        refine wp_bipush (v := 12) dX8_lays_30 (by decide) rfl ?_
        refine wp_icmp_ne (t := 40) dX8_lays_32 rfl rfl (fun h32 => ?_) (fun h32 => ?_)
        · refine wp_aload_n dX8_lays_40 rfl rfl ?_
          refine wp_bipush (v := 45) dX8_lays_41 (by decide) rfl ?_
          refine wp_iconst (v := 5) dX8_lays_43 (by decide) rfl ?_
          refine wp_iload_n dX8_lays_44 rfl rfl ?_
          refine wp_imul dX8_lays_45 rfl ?_
          refine wp_iadd dX8_lays_46 rfl ?_
          refine wp_iconst (v := 3) dX8_lays_47 (by decide) rfl ?_
          refine wp_iadd dX8_lays_48 rfl ?_
          refine wp_iload_n dX8_lays_49 rfl rfl ?_
          rw [ix_l3]
          refine wn_callV2d dX8_lays_50 rRX8_121 (rcv_of o40 rfl) (Nat.le_of_ble_eq_true rfl) rfl rfl (Nat.le_of_ble_eq_true rfl) rfl (c8_becomes (k := 45 + 5 * g + 3) (by omega)) ?_
          refine wp_iret dX8_lays_53 rfl rfl ?_
          obtain ⟨e1, e2⟩ := ly_yes (f := (s.1 (41, 0, 0))) (c := c) (g := g) (y := y) ⟨h5, Or.inr h18⟩ hg12 h32
          refine ⟨_, _, rfl, rfl, e1.symm, ?_, Fr.rf.pt (by decide)⟩
          rw [sI_row]; exact e2.symm
        · refine wp_ldc dX8_lays_35 kRX8_127 rfl ?_
          refine wp_goto (t := 53) dX8_lays_37 rfl ?_
          refine wp_iret dX8_lays_53 rfl rfl ?_
          obtain ⟨e1, e2⟩ := ly_12 (f := (s.1 (41, 0, 0))) (c := c) (g := g) (y := y) ⟨h5, Or.inr h18⟩ hg12 h32
          exact ⟨_, _, rfl, rfl, e1.symm, e2.symm, Fr.rf⟩
      · refine wp_ldc dX8_lays_21 kRX8_83 rfl ?_
        refine wp_iret dX8_lays_23 rfl rfl ?_
        obtain ⟨e1, e2⟩ := ly_no (f := (s.1 (41, 0, 0))) (c := c) (x := nI g) (y := y) (fun z => z.2.elim h12 h18)
        exact ⟨_, _, rfl, rfl, e1.symm, e2.symm, Fr.rf⟩
theorem c7_lays {s : Sn} {f : Fl} {c : Nat} {x y : Int32} (hV : RV s 0 f c) : Ca (d + 2) MX7_lays [vR 10 0 0, vI x, vI y] (hN s) (Pv fun z t => z = lyA f c x y ∧ RV t 0 (lyF f c x y) c ∧ FQ (XR 0) s t) := by
  change Wp _ _ 0 [some _, some _, some _, none] [] _ _
  have hc := hV.2.2.2
  have hlc : s.1 (11, 0, 0) 6 = nI c := (hV.1.sc 1 (by decide)).trans hV.2.2.1
  have hcn : cn f = c := by unfold cn; rw [hV.2.2.1, nI_clamp (by omega)]
  refine wp_aload_n dX7_lays_0 rfl rfl ?_
  refine wn_getR dX7_lays_1 fRX7_10 o10 rfl rfl rfl ?_
  refine wp_iload_n dX7_lays_4 rfl rfl ?_
  refine wn_callV1d dX7_lays_5 rRX7_77 (rcv_of (o11 (by decide)) rfl) (Nat.le_of_ble_eq_true rfl) rfl (Nat.le_of_ble_eq_true rfl) rfl (c3_hasLog (by decide)) ?_
  refine wp_if_eq_b (t := 24) dX7_lays_8 rfl rfl (fun h8 => ?_) (fun h8 => ?_)
  · refine wp_ldc dX7_lays_24 kRX7_68 rfl ?_
    refine wp_iret dX7_lays_26 rfl rfl ?_
    obtain ⟨e1, e2⟩ := ly_no (f := f) (c := c) (x := x) (y := y) (fun z => by obtain ⟨g, hg, rfl⟩ := log_nat hc z.1; exact h8 ⟨by rw [hlc]; exact z.1, (nI_ltI (b := 12) (by omega) (by omega)).mpr (by omega)⟩)
    exact ⟨_, _, rfl, rfl, e1.symm, by rw [e2]; exact hV, FQ.rf⟩
  · obtain ⟨g, hg, rfl⟩ := log_nat hc (by rw [← hlc]; exact h8.1)
    have hg12 : g < 12 := by omega
    refine wp_iload_n dX7_lays_11 rfl rfl ?_
    refine wn_callS1d dX7_lays_12 rRX7_124 (Nat.le_of_ble_eq_true rfl) rfl (Nat.le_of_ble_eq_true rfl) rfl (c7_isReach) ?_
    refine wp_if_ne_b (t := 27) dX7_lays_15 rfl rfl (fun h15 => ?_) (fun h15 => ?_)
    · refine wp_aload_n dX7_lays_27 rfl rfl ?_
      refine wn_getR dX7_lays_28 fRX7_10 o10 rfl rfl rfl ?_
      refine wn_getR dX7_lays_31 fRX7_80 (o11 (by decide)) rfl rfl rfl ?_
      refine wp_iload_n dX7_lays_34 rfl rfl ?_
      refine wn_aald13 dX7_lays_35 (by decide) (nIx rfl (by omega)) hg12 rfl ?_
      refine wn_getI dX7_lays_36 fRX7_95 (o12 (by decide) hg12) rfl rfl ?_
      rw [show s.1 (12, 0, g) 3 = f (45 + 5 * g + 3) from hV.1.lg (by omega) hg12 (by decide)]
      refine wp_istore_n (l' := [_, _, _, some _]) dX7_lays_39 rfl rfl ?_
      refine wp_iload_n dX7_lays_40 rfl rfl ?_
      refine wp_bipush (v := 12) dX7_lays_41 (by decide) rfl ?_
      refine wp_icmp_ne (t := 49) dX7_lays_43 rfl rfl (fun h43 => ?_) (fun h43 => ?_)
      · refine wp_aload_n dX7_lays_49 rfl rfl ?_
        refine wn_getR dX7_lays_50 fRX7_10 o10 rfl rfl rfl ?_
        refine wn_getR dX7_lays_53 fRX7_80 (o11 (by decide)) rfl rfl rfl ?_
        refine wp_iload_n dX7_lays_56 rfl rfl ?_
        refine wn_aald13 dX7_lays_57 (by decide) (nIx rfl (by omega)) hg12 rfl ?_
        refine wp_iload_n dX7_lays_58 rfl rfl ?_
        refine wn_putI dX7_lays_59 fRX7_95 (o12 (by decide) hg12) rfl rfl rfl ?_
        refine wp_iload_n dX7_lays_62 rfl rfl ?_
        refine wp_iret dX7_lays_63 rfl rfl ?_
        have ho := (⟨nat_log hc hg, Or.inl (le11.mp h15)⟩ : lyO c (nI g) y)
        obtain ⟨e1, e2⟩ := ly_yes (f := f) (c := c) (g := g) (y := y) ho hg12 h43
        exact ⟨_, _, rfl, rfl, e1.symm, by rw [e2]; exact hV.rc hg h43 (ly_13 ho.2), FQ.rf.pt (Or.inr ⟨rfl, Or.inr (Or.inl rfl)⟩)⟩
      · refine wp_ldc dX7_lays_46 kRX7_127 rfl ?_
        refine wp_iret dX7_lays_48 rfl rfl ?_
        obtain ⟨e1, e2⟩ := ly_12 (f := f) (c := c) (g := g) (y := y) ⟨nat_log hc hg, Or.inl (le11.mp h15)⟩ hg12 h43
        exact ⟨_, _, rfl, rfl, e1.symm, by rw [e2]; exact hV, FQ.rf⟩
    · refine wp_iload_n dX7_lays_18 rfl rfl ?_
      refine wp_bipush (v := 13) dX7_lays_19 (by decide) rfl ?_
      refine wp_icmp_eq (t := 27) dX7_lays_21 rfl rfl (fun h21 => ?_) (fun h21 => ?_)
      · refine wp_aload_n dX7_lays_27 rfl rfl ?_
        refine wn_getR dX7_lays_28 fRX7_10 o10 rfl rfl rfl ?_
        refine wn_getR dX7_lays_31 fRX7_80 (o11 (by decide)) rfl rfl rfl ?_
        refine wp_iload_n dX7_lays_34 rfl rfl ?_
        refine wn_aald13 dX7_lays_35 (by decide) (nIx rfl (by omega)) hg12 rfl ?_
        refine wn_getI dX7_lays_36 fRX7_95 (o12 (by decide) hg12) rfl rfl ?_
        rw [show s.1 (12, 0, g) 3 = f (45 + 5 * g + 3) from hV.1.lg (by omega) hg12 (by decide)]
        refine wp_istore_n (l' := [_, _, _, some _]) dX7_lays_39 rfl rfl ?_
        refine wp_iload_n dX7_lays_40 rfl rfl ?_
        refine wp_bipush (v := 12) dX7_lays_41 (by decide) rfl ?_
        refine wp_icmp_ne (t := 49) dX7_lays_43 rfl rfl (fun h43 => ?_) (fun h43 => ?_)
        · refine wp_aload_n dX7_lays_49 rfl rfl ?_
          refine wn_getR dX7_lays_50 fRX7_10 o10 rfl rfl rfl ?_
          refine wn_getR dX7_lays_53 fRX7_80 (o11 (by decide)) rfl rfl rfl ?_
          refine wp_iload_n dX7_lays_56 rfl rfl ?_
          refine wn_aald13 dX7_lays_57 (by decide) (nIx rfl (by omega)) hg12 rfl ?_
          refine wp_iload_n dX7_lays_58 rfl rfl ?_
          refine wn_putI dX7_lays_59 fRX7_95 (o12 (by decide) hg12) rfl rfl rfl ?_
          refine wp_iload_n dX7_lays_62 rfl rfl ?_
          refine wp_iret dX7_lays_63 rfl rfl ?_
          have ho := (⟨nat_log hc hg, Or.inr h21⟩ : lyO c (nI g) y)
          obtain ⟨e1, e2⟩ := ly_yes (f := f) (c := c) (g := g) (y := y) ho hg12 h43
          exact ⟨_, _, rfl, rfl, e1.symm, by rw [e2]; exact hV.rc hg h43 (ly_13 ho.2), FQ.rf.pt (Or.inr ⟨rfl, Or.inr (Or.inl rfl)⟩)⟩
        · refine wp_ldc dX7_lays_46 kRX7_127 rfl ?_
          refine wp_iret dX7_lays_48 rfl rfl ?_
          obtain ⟨e1, e2⟩ := ly_12 (f := f) (c := c) (g := g) (y := y) ⟨nat_log hc hg, Or.inr h21⟩ hg12 h43
          exact ⟨_, _, rfl, rfl, e1.symm, by rw [e2]; exact hV, FQ.rf⟩
      · refine wp_ldc dX7_lays_24 kRX7_68 rfl ?_
        refine wp_iret dX7_lays_26 rfl rfl ?_
        obtain ⟨e1, e2⟩ := ly_no (f := f) (c := c) (x := nI g) (y := y) (fun z => z.2.elim (fun e => h15 (le11.mpr e)) h21)
        exact ⟨_, _, rfl, rfl, e1.symm, by rw [e2]; exact hV, FQ.rf⟩
def tdV (f : Fl) (g w : Nat) : Int32 := if w < 5 then f (45 + 5 * g + w) else if w = 5 then drf f g else if w = 6 then clm (f (45 + 5 * g + 0)) (f 5) else wor (f (45 + 5 * g + 0)) (f (45 + 5 * g + 2))
abbrev tdO (c : Nat) (x y : Int32) : Prop := (0 ≤ x ∧ x ≤ nI c - 1) ∧ (0 ≤ y ∧ y ≤ 7)
def tdA (f : Fl) (c : Nat) (x y : Int32) : Int32 := if tdO c x y then tdV f x.toNatClampNeg y.toNatClampNeg else -1000000001
theorem tdA_y {f : Fl} {c g w : Nat} (h : tdO c (nI g) (nI w)) (hg : g < 12) (hw : w ≤ 7) : tdA f c (nI g) (nI w) = tdV f g w := by
  unfold tdA
  rw [if_pos h, nI_clamp (by omega), nI_clamp (by omega)]
theorem c8_told {s : Sn} {c c8 : Nat} {x y : Int32} (hW : Wq (s.1 (41, 0, 0)) c c8) : Ca (d + 3) MX8_told [vR 40 0 0, vI x, vI y] (hN s) (Pv fun z t => z = tdA (s.1 (41, 0, 0)) c x y ∧ Fr [(41, 10, 0), (41, 11, 0)] s t) := by
  change Wp _ _ 0 [some _, some _, some _] [] _ _
  have hc := hW.2.1
  refine wp_aload_n dX8_told_0 rfl rfl ?_
  refine wp_iload_n dX8_told_1 rfl rfl ?_
  refine wn_callV1d dX8_told_2 rRX8_103 (rcv_of o40 rfl) (Nat.le_of_ble_eq_true rfl) rfl (Nat.le_of_ble_eq_true rfl) rfl (c8_isLog) ?_
  rw [hW.1]
  refine wp_if_eq_b (t := 18) dX8_told_5 rfl rfl (fun h5 => ?_) (fun h5 => ?_)
  · refine wp_ldc dX8_told_18 kRX8_83 rfl ?_
    refine wp_iret dX8_told_20 rfl rfl ?_
    exact ⟨_, _, rfl, rfl, (if_neg (fun z => h5 z.1)).symm, Fr.rf⟩
  · obtain ⟨g, hg, rfl⟩ := log_nat hc h5
    have hg12 : g < 12 := by omega
    refine wp_iload_n dX8_told_8 rfl rfl ?_
    refine wp_iconst (v := 0) dX8_told_9 (by decide) rfl ?_
    refine wp_bipush (v := 7) dX8_told_10 (by decide) rfl ?_
    refine wn_callS3d dX8_told_12 rRX8_75 (Nat.le_of_ble_eq_true rfl) rfl rfl rfl (Nat.le_of_ble_eq_true rfl) rfl (c8_in) ?_
    refine wp_if_ne_b (t := 21) dX8_told_15 rfl rfl (fun h15 => ?_) (fun h15 => ?_)
    · obtain ⟨w, hw7, rfl⟩ := nat60 (b := 7) (by decide) h15
      refine wp_iload_n dX8_told_21 rfl rfl ?_
      refine wp_iconst (v := 5) dX8_told_22 (by decide) rfl ?_
      refine wp_icmp_ge (t := 35) dX8_told_23 rfl rfl (fun h23 => ?_) (fun h23 => ?_)
      · have hw5 : ¬ w < 5 := by have := (nI_leI (a := 5) (by decide) (by omega)).mp h23; omega
        refine wp_iload_n dX8_told_35 rfl rfl ?_
        refine wp_iconst (v := 5) dX8_told_36 (by decide) rfl ?_
        refine wp_icmp_ne (t := 48) dX8_told_37 rfl rfl (fun h37 => ?_) (fun h37 => ?_)
        · refine wp_iload_n dX8_told_48 rfl rfl ?_
          refine wp_bipush (v := 6) dX8_told_49 (by decide) rfl ?_
          refine wp_icmp_ne (t := 62) dX8_told_51 rfl rfl (fun h51 => ?_) (fun h51 => ?_)
          · refine wp_aload_n dX8_told_62 rfl rfl ?_
            refine wp_iload_n dX8_told_63 rfl rfl ?_
            refine wn_callV1d dX8_told_64 rRX8_113 (rcv_of o40 rfl) (Nat.le_of_ble_eq_true rfl) rfl (Nat.le_of_ble_eq_true rfl) rfl (c8_worth hg12) ?_
            refine wp_iret dX8_told_67 rfl rfl ?_
            refine ⟨_, _, rfl, rfl, ?_, Fr.rf⟩
            rw [tdA_y ⟨h5, h15⟩ hg12 hw7, tdV]
            rw [if_neg hw5, if_neg (fun z => h37 (by rw [z]; rfl)), if_neg (fun z => h51 (by rw [z]; rfl))]
          · refine wp_aload_n dX8_told_54 rfl rfl ?_
            refine wp_iload_n dX8_told_55 rfl rfl ?_
            refine wn_callV1d dX8_told_56 rRX8_110 (rcv_of o40 rfl) (Nat.le_of_ble_eq_true rfl) rfl (Nat.le_of_ble_eq_true rfl) rfl (c8_claimed hg12) ?_
            refine wp_goto (t := 67) dX8_told_59 rfl ?_
            refine wp_iret dX8_told_67 rfl rfl ?_
            refine ⟨_, _, rfl, rfl, ?_, Fr.rf⟩
            rw [tdA_y ⟨h5, h15⟩ hg12 hw7, tdV]
            rw [if_neg hw5, if_neg (fun z => h37 (by rw [z]; rfl)), if_pos ((nI_eq (b := 6) (by omega) (by decide)).mp h51)]
        · refine wp_aload_n dX8_told_40 rfl rfl ?_
          refine wp_iload_n dX8_told_41 rfl rfl ?_
          refine wn_callV1i dX8_told_42 rRX8_107 (rcv_of o40 rfl) (Nat.le_of_ble_eq_true rfl) rfl (Nat.le_of_ble_eq_true rfl) rfl (c8_drifts (c := c8) hg12 hW.2.2.2.1 hW.2.2.1 hW.2.2.2.2.1) (fun x42 s42 hq42 => ?_)
          obtain ⟨e42, hF42⟩ := hq42
          refine wp_goto (t := 67) dX8_told_45 rfl ?_
          refine wp_iret dX8_told_67 rfl rfl ?_
          refine ⟨_, _, rfl, rfl, ?_, hF42⟩
          rw [tdA_y ⟨h5, h15⟩ hg12 hw7, tdV]
          rw [if_neg hw5, if_pos ((nI_eq (b := 5) (by omega) (by decide)).mp h37)]
          exact e42
      · have hw5 : w < 5 := by have := mt (nI_leI (a := 5) (by decide) (by omega)).mpr h23; omega
        refine wp_aload_n dX8_told_26 rfl rfl ?_
        refine wp_iload_n dX8_told_27 rfl rfl ?_
        refine wp_iload_n dX8_told_28 rfl rfl ?_
        refine wn_callV2d dX8_told_29 rRX8_93 (rcv_of o40 rfl) (Nat.le_of_ble_eq_true rfl) rfl rfl (Nat.le_of_ble_eq_true rfl) rfl (c8_of (j := g) (w := w) hg12 hw5) ?_
        refine wp_goto (t := 67) dX8_told_32 rfl ?_
        refine wp_iret dX8_told_67 rfl rfl ?_
        refine ⟨_, _, rfl, rfl, ?_, Fr.rf⟩
        rw [tdA_y ⟨h5, h15⟩ hg12 hw7, tdV]
        rw [if_pos hw5]
    · refine wp_ldc dX8_told_18 kRX8_83 rfl ?_
      refine wp_iret dX8_told_20 rfl rfl ?_
      exact ⟨_, _, rfl, rfl, (if_neg (fun z => h15 z.2)).symm, Fr.rf⟩
theorem c7_told {s : Sn} {f : Fl} {c c8 : Nat} {x y : Int32} (hV : RV s 0 f c) (hW : Wr f c c8) (hL : LwR s 0 f c8) : Ca (d + 3) MX7_told [vR 10 0 0, vI x, vI y] (hN s) (Pv fun z t => z = tdA f c x y ∧ FQ X36 s t) := by
  change Wp _ _ 0 [some _, some _, some _, none] [] _ _
  have hc := hV.2.2.2
  have hlc : s.1 (11, 0, 0) 6 = nI c := (hV.1.sc 1 (by decide)).trans hV.2.2.1
  have hcn : cn f = c := by unfold cn; rw [hV.2.2.1, nI_clamp (by omega)]
  refine wp_aload_n dX7_told_0 rfl rfl ?_
  refine wn_getR dX7_told_1 fRX7_10 o10 rfl rfl rfl ?_
  refine wp_iload_n dX7_told_4 rfl rfl ?_
  refine wn_callV1d dX7_told_5 rRX7_77 (rcv_of (o11 (by decide)) rfl) (Nat.le_of_ble_eq_true rfl) rfl (Nat.le_of_ble_eq_true rfl) rfl (c3_hasLog (by decide)) ?_
  refine wp_if_ne_b (t := 14) dX7_told_8 rfl rfl (fun h8 => ?_) (fun h8 => ?_)
  · obtain ⟨g, hg, rfl⟩ := log_nat hc (by rw [← hlc]; exact h8.1)
    have hg12 : g < 12 := by omega
    refine wp_aload_n dX7_told_14 rfl rfl ?_
    refine wn_getR dX7_told_15 fRX7_10 o10 rfl rfl rfl ?_
    refine wn_getR dX7_told_18 fRX7_80 (o11 (by decide)) rfl rfl rfl ?_
    refine wp_iload_n dX7_told_21 rfl rfl ?_
    refine wn_aald13 dX7_told_22 (by decide) (nIx rfl (by omega)) hg12 rfl ?_
    refine wp_astore_n (l' := [_, _, _, some _]) dX7_told_23 rfl rfl ?_
    refine wp_iload_n dX7_told_24 rfl rfl ?_
    refine wp_tsw8 (c0 := 0) (c1 := 1) (c2 := 2) (c3 := 3) (c4 := 4) (c5 := 5) (c6 := 6) (c7 := 7) (t0 := 72) (t1 := 77) (t2 := 82) (t3 := 87) (t4 := 92) (t5 := 97) (t6 := 114) (t7 := 126) (t := 131) dX7_told_25 rfl (by decide) (by decide) (by decide) (by decide) (by decide) (by decide) (by decide) (by decide) rfl rfl rfl rfl rfl rfl rfl rfl rfl rfl rfl rfl rfl rfl rfl rfl rfl (fun k25 => ?_) (fun k25 => ?_) (fun k25 => ?_) (fun k25 => ?_) (fun k25 => ?_) (fun k25 => ?_) (fun k25 => ?_) (fun k25 => ?_) (fun n25_0 n25_1 n25_2 n25_3 n25_4 n25_5 n25_6 n25_7 => ?_)
    · refine wp_aload_n dX7_told_72 rfl rfl ?_
      refine wn_getI dX7_told_73 fRX7_84 (o12 (by decide) hg12) rfl rfl ?_
      refine wp_iret dX7_told_76 rfl rfl ?_
      subst k25
      refine ⟨_, _, rfl, rfl, ?_, FQ.rf⟩
      rw [show tdA f c (nI g) 0 = tdV f g 0 from tdA_y (w := 0) ⟨nat_log hc hg, by decide⟩ hg12 (by decide)]
      exact hV.1.lg (by omega) hg12 (by decide)
    · refine wp_aload_n dX7_told_77 rfl rfl ?_
      refine wn_getI dX7_told_78 fRX7_89 (o12 (by decide) hg12) rfl rfl ?_
      refine wp_iret dX7_told_81 rfl rfl ?_
      subst k25
      refine ⟨_, _, rfl, rfl, ?_, FQ.rf⟩
      rw [show tdA f c (nI g) 1 = tdV f g 1 from tdA_y (w := 1) ⟨nat_log hc hg, by decide⟩ hg12 (by decide)]
      exact hV.1.lg (by omega) hg12 (by decide)
    · refine wp_aload_n dX7_told_82 rfl rfl ?_
      refine wn_getI dX7_told_83 fRX7_92 (o12 (by decide) hg12) rfl rfl ?_
      refine wp_iret dX7_told_86 rfl rfl ?_
      subst k25
      refine ⟨_, _, rfl, rfl, ?_, FQ.rf⟩
      rw [show tdA f c (nI g) 2 = tdV f g 2 from tdA_y (w := 2) ⟨nat_log hc hg, by decide⟩ hg12 (by decide)]
      exact hV.1.lg (by omega) hg12 (by decide)
    · refine wp_aload_n dX7_told_87 rfl rfl ?_
      refine wn_getI dX7_told_88 fRX7_95 (o12 (by decide) hg12) rfl rfl ?_
      refine wp_iret dX7_told_91 rfl rfl ?_
      subst k25
      refine ⟨_, _, rfl, rfl, ?_, FQ.rf⟩
      rw [show tdA f c (nI g) 3 = tdV f g 3 from tdA_y (w := 3) ⟨nat_log hc hg, by decide⟩ hg12 (by decide)]
      exact hV.1.lg (by omega) hg12 (by decide)
    · refine wp_aload_n dX7_told_92 rfl rfl ?_
      refine wn_getI dX7_told_93 fRX7_98 (o12 (by decide) hg12) rfl rfl ?_
      refine wp_iret dX7_told_96 rfl rfl ?_
      subst k25
      refine ⟨_, _, rfl, rfl, ?_, FQ.rf⟩
      rw [show tdA f c (nI g) 4 = tdV f g 4 from tdA_y (w := 4) ⟨nat_log hc hg, by decide⟩ hg12 (by decide)]
      exact hV.1.lg (by omega) hg12 (by decide)
    · refine wp_aload_n dX7_told_97 rfl rfl ?_
      refine wn_getR dX7_told_98 fRX7_10 o10 rfl rfl rfl ?_
      refine wp_aload_n dX7_told_101 rfl rfl ?_
      refine wp_aload_n dX7_told_102 rfl rfl ?_
      refine wn_getR dX7_told_103 fRX7_10 o10 rfl rfl rfl ?_
      refine wp_iconst (v := 0) dX7_told_106 (by decide) rfl ?_
      refine wn_callV1r dX7_told_107 rRX7_101 (rcv_of (o11 (by decide)) rfl) (Nat.le_of_ble_eq_true rfl) rfl (Nat.le_of_ble_eq_true rfl) rfl (c3_lawFor (f := f) (c8 := c8) (by decide) ((hV.1.sc 8 (by decide)).trans hW.1.2.2.1) hW.1.2.2.2.1 hL) (fun x107 s107 hq107 => ?_)
      obtain ⟨hLW, rfl⟩ := hq107
      refine wn_callV2i dX7_told_110 rRX7_105 (rcv_of (o11 (by decide)) rfl) (Nat.le_of_ble_eq_true rfl) rfl rfl (Nat.le_of_ble_eq_true rfl) rfl (c3_driftOf (by decide) hV.1 hW hLW hg) (fun x110 s110 hq110 => ?_)
      obtain ⟨e110, hF110⟩ := hq110
      refine wp_iret dX7_told_113 rfl rfl ?_
      subst k25
      refine ⟨_, _, rfl, rfl, ?_, hF110⟩
      rw [show tdA f c (nI g) 5 = tdV f g 5 from tdA_y (w := 5) ⟨nat_log hc hg, by decide⟩ hg12 (by decide)]
      exact e110
    · refine wp_aload_n dX7_told_114 rfl rfl ?_
      refine wp_aload_n dX7_told_115 rfl rfl ?_
      refine wn_getR dX7_told_116 fRX7_10 o10 rfl rfl rfl ?_
      refine wn_getI dX7_told_119 fRX7_109 (o11 (by decide)) rfl rfl ?_
      refine wn_callV1d dX7_told_122 rRX7_112 (rcv_of (o12 (by decide) hg12) rfl) (Nat.le_of_ble_eq_true rfl) rfl (Nat.le_of_ble_eq_true rfl) rfl (c1_claimedBy (by decide) hg12) ?_
      refine wp_iret dX7_told_125 rfl rfl ?_
      subst k25
      refine ⟨_, _, rfl, rfl, ?_, FQ.rf⟩
      rw [show tdA f c (nI g) 6 = tdV f g 6 from tdA_y (w := 6) ⟨nat_log hc hg, by decide⟩ hg12 (by decide)]
      show clm (s.1 (12, 0, g) 0) (s.1 (11, 0, 0) 10) = clm (f (45 + 5 * g + 0)) (f 5)
      rw [hV.1.lg (by omega) hg12 (by decide), show s.1 (11, 0, 0) 10 = f 5 from hV.1.sc 5 (by decide)]
    · refine wp_aload_n dX7_told_126 rfl rfl ?_
      refine wn_callV0d dX7_told_127 rRX7_116 (rcv_of (o12 (by decide) hg12) rfl) (Nat.le_of_ble_eq_true rfl)  (Nat.le_of_ble_eq_true rfl) rfl (c1_worth (by decide) hg12) ?_
      refine wp_iret dX7_told_130 rfl rfl ?_
      subst k25
      refine ⟨_, _, rfl, rfl, ?_, FQ.rf⟩
      rw [show tdA f c (nI g) 7 = tdV f g 7 from tdA_y (w := 7) ⟨nat_log hc hg, by decide⟩ hg12 (by decide)]
      show wrc (s.1 (12, 0, g) 0) (s.1 (12, 0, g) 2) = wor (f (45 + 5 * g + 0)) (f (45 + 5 * g + 2))
      rw [hV.1.lg (by omega) hg12 (by decide), hV.1.lg (by omega) hg12 (by decide), wrc_eq]
    · refine wp_ldc dX7_told_131 kRX7_68 rfl ?_
      refine wp_iret dX7_told_133 rfl rfl ?_
      refine ⟨_, _, rfl, rfl, (if_neg (fun z => ?_)).symm, FQ.rf⟩
      obtain ⟨w, hw7, rfl⟩ := nat60 (b := 7) (by decide) z.2
      rcases (by omega : w = 0 ∨ w = 1 ∨ w = 2 ∨ w = 3 ∨ w = 4 ∨ w = 5 ∨ w = 6 ∨ w = 7) with e | e | e | e | e | e | e | e <;> subst e
      · exact n25_0 rfl
      · exact n25_1 rfl
      · exact n25_2 rfl
      · exact n25_3 rfl
      · exact n25_4 rfl
      · exact n25_5 rfl
      · exact n25_6 rfl
      · exact n25_7 rfl
  · refine wp_ldc dX7_told_11 kRX7_68 rfl ?_
    refine wp_iret dX7_told_13 rfl rfl ?_
    exact ⟨_, _, rfl, rfl, (if_neg (fun z => by obtain ⟨g, hg, rfl⟩ := log_nat hc z.1; exact h8 ⟨by rw [hlc]; exact z.1, (nI_ltI (b := 12) (by omega) (by omega)).mpr (by omega)⟩)).symm, FQ.rf⟩
end
