/-! THE PURE PART, 45: behind, whole -/
section
variable {d i : Nat}
abbrev bhO (c : Nat) (n y : Int32) : Prop := (0 ≤ n ∧ n ≤ 60) ∧ ¬ y < 0 ∧ (y ≤ 2 ∨ (0 ≤ y - 3 ∧ y - 3 ≤ nI c - 1))
def bhV (f : Fl) (n7 c : Nat) (y : Int32) : Int32 := if y = 0 then nI (mny f 12) else if y = 1 then f 6 else if y = 2 then nI (spl f n7 c 26) else f (45 + 5 * (y - 3).toNatClampNeg + 3)
def bhA (f : Fl) (n7 c : Nat) (n y : Int32) : Int32 := if bhO c n y then bhV (weks n.toNatClampNeg f) n7 c y else -1000000001
theorem bh_no {f : Fl} {n7 c : Nat} {n y : Int32} (h : ¬ bhO c n y) : bhA f n7 c n y = -1000000001 := if_neg h
theorem bh_yes {f : Fl} {n7 c m : Nat} {y : Int32} (h : bhO c (nI m) y) (hm : m ≤ 60) : bhA f n7 c (nI m) y = bhV (weks m f) n7 c y := by
  unfold bhA
  rw [if_pos h, nI_clamp (by omega)]
theorem bhV_3 {f : Fl} {n7 c g : Nat} {y : Int32} (h0 : ¬ y = 0) (h1 : ¬ y = 1) (h2 : ¬ y = 2) (hg : y - 3 = nI g) (hg12 : g < 12) : bhV f n7 c y = f (45 + 5 * g + 3) := by
  unfold bhV
  rw [if_neg h0, if_neg h1, if_neg h2, hg, nI_clamp (by omega)]
theorem nat60 {x : Int32} {b : Nat} (hb : b < 2 ^ 31) (h : 0 ≤ x ∧ x ≤ nI b) : ∃ n, n ≤ b ∧ x = nI n := by
  obtain ⟨k, hk, rfl⟩ := nI_of (Int32.not_lt.mpr h.1)
  exact ⟨k, (nI_leI hk hb).mp h.2, rfl⟩
theorem i02n {w : Int32} (h : ¬ w < 0) (h2 : w ≤ 2) (n0 : ¬ w = 0) (n1 : ¬ w = 1) (n2 : ¬ w = 2) : False := by
  rcases i02 ⟨Int32.not_lt.mp h, h2⟩ with e | e | e
  · exact n0 e
  · exact n1 e
  · exact n2 e
theorem bh_nn {c : Nat} {n y : Int32} (h : ¬ (0 ≤ n ∧ n ≤ 60)) : ¬ bhO c n y := fun z => h z.1
theorem bh_ny {c : Nat} {n y : Int32} (h : y < 0) : ¬ bhO c n y := fun z => z.2.1 h
theorem bh_nl {c : Nat} {n y : Int32} (h : ¬ y ≤ 2) (h2 : ¬ (0 ≤ y - 3 ∧ y - 3 ≤ nI c - 1)) : ¬ bhO c n y := fun z => z.2.2.elim h h2
theorem gt2 {y : Int32} (h : ¬ y ≤ 2) : ¬ y = 0 ∧ ¬ y = 1 ∧ ¬ y = 2 := ⟨fun e => h (by rw [e]; decide), fun e => h (by rw [e]; decide), fun e => h (by rw [e]; decide)⟩
theorem c8_behind {s : Sn} {c c8 n7 : Nat} {x y : Int32} (hW : Wq (s.1 (41, 0, 0)) c c8) (hL : LL (s.1 (41, 0, 0)) n7) : Ca (d + 6) MX8_behind [vR 40 0 0, vI x, vI y] (hN s) (Pv fun z t => z = bhA (s.1 (41, 0, 0)) n7 c x y ∧ t.1 (41, 0, 0) = (s.1 (41, 0, 0)) ∧ Fr XB s t) := by
  change Wp _ _ 0 [some _, some _, some _, none] [] _ _
  refine wp_iload_n dX8_behind_0 rfl rfl ?_
  refine wp_iconst (v := 0) dX8_behind_1 (by decide) rfl ?_
  refine wp_bipush (v := 60) dX8_behind_2 (by decide) rfl ?_
  refine wn_callS3d dX8_behind_4 rRX8_75 (Nat.le_of_ble_eq_true rfl) rfl rfl rfl (Nat.le_of_ble_eq_true rfl) rfl (c8_in) ?_
  refine wp_if_eq_b (t := 29) dX8_behind_7 rfl rfl (fun h7 => ?_) (fun h7 => ?_)
  · refine wp_ldc dX8_behind_29 kRX8_83 rfl ?_
    refine wp_iret dX8_behind_31 rfl rfl ?_
    exact ⟨_, _, rfl, rfl, (bh_no (bh_nn h7)).symm, rfl, Fr.rf⟩
  · obtain ⟨m, hm60, rfl⟩ := nat60 (b := 60) (by decide) h7
    refine wp_iload_n dX8_behind_10 rfl rfl ?_
    refine wp_if_lt (t := 29) dX8_behind_11 rfl rfl (fun h11 => ?_) (fun h11 => ?_)
    · refine wp_ldc dX8_behind_29 kRX8_83 rfl ?_
      refine wp_iret dX8_behind_31 rfl rfl ?_
      exact ⟨_, _, rfl, rfl, (bh_no (bh_ny h11)).symm, rfl, Fr.rf⟩
    · refine wp_iload_n dX8_behind_14 rfl rfl ?_
      refine wp_iconst (v := 2) dX8_behind_15 (by decide) rfl ?_
      refine wp_icmp_le (t := 32) dX8_behind_16 rfl rfl (fun h16 => ?_) (fun h16 => ?_)
      · refine wp_aload_n dX8_behind_32 rfl rfl ?_
        refine wn_callV0n dX8_behind_33 rRX8_156 (rcv_of o40 rfl) (Nat.le_of_ble_eq_true rfl)  (Nat.le_of_ble_eq_true rfl) rfl (c8_thinks rfl) (fun s33 hq33 => ?_)
        obtain ⟨hB33, hF33⟩ := hq33
        have e33 := hF33.1 (41, 0, 0) (by decide)
        refine wp_aload_n dX8_behind_36 rfl rfl ?_
        refine wp_iload_n dX8_behind_37 rfl rfl ?_
        refine wn_callV1n dX8_behind_38 rRX8_146 (rcv_of o40 rfl) (Nat.le_of_ble_eq_true rfl) rfl (Nat.le_of_ble_eq_true rfl) rfl (c8_goesOn (by omega) (by rw [e33]; exact hW)) (fun s38 hq38 => ?_)
        obtain ⟨e38, hF38⟩ := hq38
        have hW38 := Wq.weks m _ hW
        have hr : s38.1 (41, 0, 0) = weks m (s.1 (41, 0, 0)) := e38.trans (by rw [e33])
        have hL38 := hL.weks m
        have hp : ∀ k, 105 ≤ k → s38.1 (41, 0, 0) k = (s.1 (41, 0, 0)) k := fun k hk => by rw [hr, weks_hi hk m _ hW]
        refine wp_iload_n dX8_behind_41 rfl rfl ?_
        refine wp_if_ne (t := 54) dX8_behind_42 rfl rfl (fun h42 => ?_) (fun h42 => ?_)
        · refine wp_iload_n dX8_behind_54 rfl rfl ?_
          refine wp_iconst (v := 1) dX8_behind_55 (by decide) rfl ?_
          refine wp_icmp_ne (t := 69) dX8_behind_56 rfl rfl (fun h56 => ?_) (fun h56 => ?_)
          · refine wp_iload_n dX8_behind_69 rfl rfl ?_
            refine wp_iconst (v := 2) dX8_behind_70 (by decide) rfl ?_
            refine wp_icmp_ne (t := 81) dX8_behind_71 rfl rfl (fun h71 => (i02n h11 h16 h42 h56 h71).elim) (fun h71 => ?_)
            refine wp_aload_n dX8_behind_74 rfl rfl ?_
            refine wn_callV0d dX8_behind_75 rRX8_150 (rcv_of o40 rfl) (Nat.le_of_ble_eq_true rfl)  (Nat.le_of_ble_eq_true rfl) rfl (c8_spelt hL.2.1 (by rw [hr]; exact hL38.1) (c := c) hW.2.1 (by rw [hr]; exact hW38.1)) ?_
            refine wp_goto (t := 89) dX8_behind_78 rfl ?_
            refine wp_istore_n (l' := [_, _, _, some _]) dX8_behind_89 rfl rfl ?_
            refine wp_aload_n dX8_behind_90 rfl rfl ?_
            refine wn_callV0n dX8_behind_91 rRX8_159 (rcv_of o40 rfl) (Nat.le_of_ble_eq_true rfl)  (Nat.le_of_ble_eq_true rfl) rfl (c8_putsBack (hB33.fr hF38 (by decide)) hp) (fun s91 hq91 => ?_)
            obtain ⟨e91, hF91a⟩ := hq91
            have hF91 := ((hF33.wd X3_B).tr (hF38.wd XW_B)).tr (hF91a.wd (fun r h => XW_B r (X0_W r h)))
            refine wp_iload_n dX8_behind_94 rfl rfl ?_
            refine wp_iret dX8_behind_95 rfl rfl ?_
            refine ⟨_, _, rfl, rfl, ?_, e91, hF91⟩
            rw [bh_yes (c := c) (y := y) ⟨h7, h11, Or.inl h16⟩ hm60]
            subst h71
            rw [show bhV (weks m (s.1 (41, 0, 0))) n7 c 2 = nI (spl (weks m (s.1 (41, 0, 0))) n7 c 26) from rfl, e38, e33]
          · refine wp_aload_n dX8_behind_59 rfl rfl ?_
            refine wn_getR dX8_behind_60 fRX8_9 o40 rfl rfl rfl ?_
            refine wp_bipush (v := 6) dX8_behind_63 (by decide) rfl ?_
            refine wn_iald (j := 6) dX8_behind_65 (o41 0 rfl) rfl ⟨by decide, by decide⟩ (Nat.le_of_ble_eq_true rfl) rfl ?_
            refine wp_goto (t := 89) dX8_behind_66 rfl ?_
            refine wp_istore_n (l' := [_, _, _, some _]) dX8_behind_89 rfl rfl ?_
            refine wp_aload_n dX8_behind_90 rfl rfl ?_
            refine wn_callV0n dX8_behind_91 rRX8_159 (rcv_of o40 rfl) (Nat.le_of_ble_eq_true rfl)  (Nat.le_of_ble_eq_true rfl) rfl (c8_putsBack (hB33.fr hF38 (by decide)) hp) (fun s91 hq91 => ?_)
            obtain ⟨e91, hF91a⟩ := hq91
            have hF91 := ((hF33.wd X3_B).tr (hF38.wd XW_B)).tr (hF91a.wd (fun r h => XW_B r (X0_W r h)))
            refine wp_iload_n dX8_behind_94 rfl rfl ?_
            refine wp_iret dX8_behind_95 rfl rfl ?_
            refine ⟨_, _, rfl, rfl, ?_, e91, hF91⟩
            rw [bh_yes (c := c) (y := y) ⟨h7, h11, Or.inl h16⟩ hm60]
            subst h56
            rw [show bhV (weks m (s.1 (41, 0, 0))) n7 c 1 = weks m (s.1 (41, 0, 0)) 6 from rfl, e38, e33]
        · refine wp_aload_n dX8_behind_45 rfl rfl ?_
          refine wp_bipush (v := 12) dX8_behind_46 (by decide) rfl ?_
          refine wn_callV1d dX8_behind_48 rRX8_133 (rcv_of o40 rfl) (Nat.le_of_ble_eq_true rfl) rfl (Nat.le_of_ble_eq_true rfl) rfl (c8_manyAt (c := c) hW.2.1 (by rw [hr]; exact hW38.1)) ?_
          refine wp_goto (t := 89) dX8_behind_51 rfl ?_
          refine wp_istore_n (l' := [_, _, _, some _]) dX8_behind_89 rfl rfl ?_
          refine wp_aload_n dX8_behind_90 rfl rfl ?_
          refine wn_callV0n dX8_behind_91 rRX8_159 (rcv_of o40 rfl) (Nat.le_of_ble_eq_true rfl)  (Nat.le_of_ble_eq_true rfl) rfl (c8_putsBack (hB33.fr hF38 (by decide)) hp) (fun s91 hq91 => ?_)
          obtain ⟨e91, hF91a⟩ := hq91
          have hF91 := ((hF33.wd X3_B).tr (hF38.wd XW_B)).tr (hF91a.wd (fun r h => XW_B r (X0_W r h)))
          refine wp_iload_n dX8_behind_94 rfl rfl ?_
          refine wp_iret dX8_behind_95 rfl rfl ?_
          refine ⟨_, _, rfl, rfl, ?_, e91, hF91⟩
          rw [bh_yes (c := c) (y := y) ⟨h7, h11, Or.inl h16⟩ hm60]
          subst h42
          rw [show bhV (weks m (s.1 (41, 0, 0))) n7 c 0 = nI (mny (weks m (s.1 (41, 0, 0))) 12) from rfl, e38, e33]
      · refine wp_aload_n dX8_behind_19 rfl rfl ?_
        refine wp_iload_n dX8_behind_20 rfl rfl ?_
        refine wp_iconst (v := 3) dX8_behind_21 (by decide) rfl ?_
        refine wp_isub dX8_behind_22 rfl ?_
        refine wn_callV1d dX8_behind_23 rRX8_103 (rcv_of o40 rfl) (Nat.le_of_ble_eq_true rfl) rfl (Nat.le_of_ble_eq_true rfl) rfl (c8_isLog) ?_
        rw [hW.1]
        refine wp_if_ne_b (t := 32) dX8_behind_26 rfl rfl (fun h26 => ?_) (fun h26 => ?_)
        · obtain ⟨g, hgc, hg⟩ := log_nat hW.2.1 h26
          rw [hg] at h26
          have hg12 : g < 12 := by have := hW.2.1; omega
          refine wp_aload_n dX8_behind_32 rfl rfl ?_
          refine wn_callV0n dX8_behind_33 rRX8_156 (rcv_of o40 rfl) (Nat.le_of_ble_eq_true rfl)  (Nat.le_of_ble_eq_true rfl) rfl (c8_thinks rfl) (fun s33 hq33 => ?_)
          obtain ⟨hB33, hF33⟩ := hq33
          have e33 := hF33.1 (41, 0, 0) (by decide)
          refine wp_aload_n dX8_behind_36 rfl rfl ?_
          refine wp_iload_n dX8_behind_37 rfl rfl ?_
          refine wn_callV1n dX8_behind_38 rRX8_146 (rcv_of o40 rfl) (Nat.le_of_ble_eq_true rfl) rfl (Nat.le_of_ble_eq_true rfl) rfl (c8_goesOn (by omega) (by rw [e33]; exact hW)) (fun s38 hq38 => ?_)
          obtain ⟨e38, hF38⟩ := hq38
          have hW38 := Wq.weks m _ hW
          have hr : s38.1 (41, 0, 0) = weks m (s.1 (41, 0, 0)) := e38.trans (by rw [e33])
          have hL38 := hL.weks m
          have hp : ∀ k, 105 ≤ k → s38.1 (41, 0, 0) k = (s.1 (41, 0, 0)) k := fun k hk => by rw [hr, weks_hi hk m _ hW]
          refine wp_iload_n dX8_behind_41 rfl rfl ?_
          refine wp_if_ne (t := 54) dX8_behind_42 rfl rfl (fun h42 => ?_) (fun h42 => ?_)
          · refine wp_iload_n dX8_behind_54 rfl rfl ?_
            refine wp_iconst (v := 1) dX8_behind_55 (by decide) rfl ?_
            refine wp_icmp_ne (t := 69) dX8_behind_56 rfl rfl (fun h56 => ?_) (fun h56 => ?_)
            · refine wp_iload_n dX8_behind_69 rfl rfl ?_
              refine wp_iconst (v := 2) dX8_behind_70 (by decide) rfl ?_
              refine wp_icmp_ne (t := 81) dX8_behind_71 rfl rfl (fun h71 => ?_) (fun h71 => ?_)
              · refine wp_aload_n dX8_behind_81 rfl rfl ?_
                refine wp_iload_n dX8_behind_82 rfl rfl ?_
                refine wp_iconst (v := 3) dX8_behind_83 (by decide) rfl ?_
                refine wp_isub dX8_behind_84 rfl ?_
                rw [hg]
                refine wp_iconst (v := 3) dX8_behind_85 (by decide) rfl ?_
                refine wn_callV2d dX8_behind_86 rRX8_93 (rcv_of o40 rfl) (Nat.le_of_ble_eq_true rfl) rfl rfl (Nat.le_of_ble_eq_true rfl) rfl (c8_of (j := g) (w := 3) hg12 (by decide)) ?_
                refine wp_istore_n (l' := [_, _, _, some _]) dX8_behind_89 rfl rfl ?_
                refine wp_aload_n dX8_behind_90 rfl rfl ?_
                refine wn_callV0n dX8_behind_91 rRX8_159 (rcv_of o40 rfl) (Nat.le_of_ble_eq_true rfl)  (Nat.le_of_ble_eq_true rfl) rfl (c8_putsBack (hB33.fr hF38 (by decide)) hp) (fun s91 hq91 => ?_)
                obtain ⟨e91, hF91a⟩ := hq91
                have hF91 := ((hF33.wd X3_B).tr (hF38.wd XW_B)).tr (hF91a.wd (fun r h => XW_B r (X0_W r h)))
                refine wp_iload_n dX8_behind_94 rfl rfl ?_
                refine wp_iret dX8_behind_95 rfl rfl ?_
                refine ⟨_, _, rfl, rfl, ?_, e91, hF91⟩
                rw [bh_yes (c := c) (y := y) ⟨h7, h11, Or.inr (by rw [hg]; exact h26)⟩ hm60]
                rw [bhV_3 h42 h56 h71 hg hg12, e38, e33]
              · refine wp_aload_n dX8_behind_74 rfl rfl ?_
                refine wn_callV0d dX8_behind_75 rRX8_150 (rcv_of o40 rfl) (Nat.le_of_ble_eq_true rfl)  (Nat.le_of_ble_eq_true rfl) rfl (c8_spelt hL.2.1 (by rw [hr]; exact hL38.1) (c := c) hW.2.1 (by rw [hr]; exact hW38.1)) ?_
                refine wp_goto (t := 89) dX8_behind_78 rfl ?_
                refine wp_istore_n (l' := [_, _, _, some _]) dX8_behind_89 rfl rfl ?_
                refine wp_aload_n dX8_behind_90 rfl rfl ?_
                refine wn_callV0n dX8_behind_91 rRX8_159 (rcv_of o40 rfl) (Nat.le_of_ble_eq_true rfl)  (Nat.le_of_ble_eq_true rfl) rfl (c8_putsBack (hB33.fr hF38 (by decide)) hp) (fun s91 hq91 => ?_)
                obtain ⟨e91, hF91a⟩ := hq91
                have hF91 := ((hF33.wd X3_B).tr (hF38.wd XW_B)).tr (hF91a.wd (fun r h => XW_B r (X0_W r h)))
                refine wp_iload_n dX8_behind_94 rfl rfl ?_
                refine wp_iret dX8_behind_95 rfl rfl ?_
                refine ⟨_, _, rfl, rfl, ?_, e91, hF91⟩
                rw [bh_yes (c := c) (y := y) ⟨h7, h11, Or.inr (by rw [hg]; exact h26)⟩ hm60]
                subst h71
                rw [show bhV (weks m (s.1 (41, 0, 0))) n7 c 2 = nI (spl (weks m (s.1 (41, 0, 0))) n7 c 26) from rfl, e38, e33]
            · refine wp_aload_n dX8_behind_59 rfl rfl ?_
              refine wn_getR dX8_behind_60 fRX8_9 o40 rfl rfl rfl ?_
              refine wp_bipush (v := 6) dX8_behind_63 (by decide) rfl ?_
              refine wn_iald (j := 6) dX8_behind_65 (o41 0 rfl) rfl ⟨by decide, by decide⟩ (Nat.le_of_ble_eq_true rfl) rfl ?_
              refine wp_goto (t := 89) dX8_behind_66 rfl ?_
              refine wp_istore_n (l' := [_, _, _, some _]) dX8_behind_89 rfl rfl ?_
              refine wp_aload_n dX8_behind_90 rfl rfl ?_
              refine wn_callV0n dX8_behind_91 rRX8_159 (rcv_of o40 rfl) (Nat.le_of_ble_eq_true rfl)  (Nat.le_of_ble_eq_true rfl) rfl (c8_putsBack (hB33.fr hF38 (by decide)) hp) (fun s91 hq91 => ?_)
              obtain ⟨e91, hF91a⟩ := hq91
              have hF91 := ((hF33.wd X3_B).tr (hF38.wd XW_B)).tr (hF91a.wd (fun r h => XW_B r (X0_W r h)))
              refine wp_iload_n dX8_behind_94 rfl rfl ?_
              refine wp_iret dX8_behind_95 rfl rfl ?_
              refine ⟨_, _, rfl, rfl, ?_, e91, hF91⟩
              rw [bh_yes (c := c) (y := y) ⟨h7, h11, Or.inr (by rw [hg]; exact h26)⟩ hm60]
              subst h56
              rw [show bhV (weks m (s.1 (41, 0, 0))) n7 c 1 = weks m (s.1 (41, 0, 0)) 6 from rfl, e38, e33]
          · refine wp_aload_n dX8_behind_45 rfl rfl ?_
            refine wp_bipush (v := 12) dX8_behind_46 (by decide) rfl ?_
            refine wn_callV1d dX8_behind_48 rRX8_133 (rcv_of o40 rfl) (Nat.le_of_ble_eq_true rfl) rfl (Nat.le_of_ble_eq_true rfl) rfl (c8_manyAt (c := c) hW.2.1 (by rw [hr]; exact hW38.1)) ?_
            refine wp_goto (t := 89) dX8_behind_51 rfl ?_
            refine wp_istore_n (l' := [_, _, _, some _]) dX8_behind_89 rfl rfl ?_
            refine wp_aload_n dX8_behind_90 rfl rfl ?_
            refine wn_callV0n dX8_behind_91 rRX8_159 (rcv_of o40 rfl) (Nat.le_of_ble_eq_true rfl)  (Nat.le_of_ble_eq_true rfl) rfl (c8_putsBack (hB33.fr hF38 (by decide)) hp) (fun s91 hq91 => ?_)
            obtain ⟨e91, hF91a⟩ := hq91
            have hF91 := ((hF33.wd X3_B).tr (hF38.wd XW_B)).tr (hF91a.wd (fun r h => XW_B r (X0_W r h)))
            refine wp_iload_n dX8_behind_94 rfl rfl ?_
            refine wp_iret dX8_behind_95 rfl rfl ?_
            refine ⟨_, _, rfl, rfl, ?_, e91, hF91⟩
            rw [bh_yes (c := c) (y := y) ⟨h7, h11, Or.inr (by rw [hg]; exact h26)⟩ hm60]
            subst h42
            rw [show bhV (weks m (s.1 (41, 0, 0))) n7 c 0 = nI (mny (weks m (s.1 (41, 0, 0))) 12) from rfl, e38, e33]
        · refine wp_ldc dX8_behind_29 kRX8_83 rfl ?_
          refine wp_iret dX8_behind_31 rfl rfl ?_
          exact ⟨_, _, rfl, rfl, (bh_no (bh_nl h16 h26)).symm, rfl, Fr.rf⟩
theorem c7_behind {s : Sn} {f : Fl} {c c8 n7 : Nat} {x y : Int32} (h : RVL s 0 f c c8) (hW : Wr f c c8) (hL : LL f n7) : Ca (d + 6) MX7_behind [vR 10 0 0, vI x, vI y] (hN s) (Pv fun z t => z = bhA f n7 c x y ∧ FH s t) := by
  change Wp _ _ 0 [some _, some _, some _] [] _ _
  have hc := hW.1.2.1
  have hlc : s.1 (11, 0, 0) 6 = nI c := (h.1.1.sc 1 (by decide)).trans hW.1.1
  refine wp_iload_n dX7_behind_0 rfl rfl ?_
  refine wp_iconst (v := 0) dX7_behind_1 (by decide) rfl ?_
  refine wp_bipush (v := 60) dX7_behind_2 (by decide) rfl ?_
  refine wn_callS3d dX7_behind_4 rRX7_128 (Nat.le_of_ble_eq_true rfl) rfl rfl rfl (Nat.le_of_ble_eq_true rfl) rfl (c7_within) ?_
  refine wp_if_eq_b (t := 32) dX7_behind_7 rfl rfl (fun h7 => ?_) (fun h7 => ?_)
  · refine wp_ldc dX7_behind_32 kRX7_68 rfl ?_
    refine wp_iret dX7_behind_34 rfl rfl ?_
    exact ⟨_, _, rfl, rfl, (bh_no (bh_nn h7)).symm, FH.rf⟩
  · obtain ⟨m, hm60, rfl⟩ := nat60 (b := 60) (by decide) h7
    refine wp_iload_n dX7_behind_10 rfl rfl ?_
    refine wp_if_lt (t := 32) dX7_behind_11 rfl rfl (fun h11 => ?_) (fun h11 => ?_)
    · refine wp_ldc dX7_behind_32 kRX7_68 rfl ?_
      refine wp_iret dX7_behind_34 rfl rfl ?_
      exact ⟨_, _, rfl, rfl, (bh_no (bh_ny h11)).symm, FH.rf⟩
    · refine wp_iload_n dX7_behind_14 rfl rfl ?_
      refine wp_iconst (v := 2) dX7_behind_15 (by decide) rfl ?_
      refine wp_icmp_le (t := 35) dX7_behind_16 rfl rfl (fun h16 => ?_) (fun h16 => ?_)
      · refine wp_aload_n dX7_behind_35 rfl rfl ?_
        refine wn_callV0n dX7_behind_36 rRX7_186 (rcv_of o10 rfl) (Nat.le_of_ble_eq_true rfl)  (Nat.le_of_ble_eq_true rfl) rfl (c7_startThought h hW.1.2.2.2.1) (fun s36 hq36 => ?_)
        obtain ⟨hV36, hF36⟩ := hq36
        refine wp_aload_n dX7_behind_39 rfl rfl ?_
        refine wn_getR dX7_behind_40 fRX7_19 o10 rfl rfl rfl ?_
        refine wp_iload_n dX7_behind_43 rfl rfl ?_
        refine wn_callV1n dX7_behind_44 rRX7_167 (rcv_of (o11 (by decide)) rfl) (Nat.le_of_ble_eq_true rfl) rfl (Nat.le_of_ble_eq_true rfl) rfl (c3_weeksQ (by decide) (by decide) (by omega) hV36 hW) (fun s44 hq44 => ?_)
        obtain ⟨hV44, hF44⟩ := hq44
        have hL44 := hL.weks m
        have hW44 := Wr.weks m _ hW
        have hcn : cn (weks m f) = c := hW44.1.cn
        refine wp_iload_n dX7_behind_47 rfl rfl ?_
        refine wp_tsw3 (c0 := 0) (c1 := 1) (c2 := 2) (t0 := 76) (t1 := 84) (t2 := 92) (t := 100) dX7_behind_48 rfl (by decide) (by decide) (by decide) rfl rfl rfl rfl rfl rfl rfl (fun k48 => ?_) (fun k48 => ?_) (fun k48 => ?_) (fun n48_0 n48_1 n48_2 => ?_)
        · refine wp_aload_n dX7_behind_76 rfl rfl ?_
          refine wn_getR dX7_behind_77 fRX7_19 o10 rfl rfl rfl ?_
          refine wn_getI dX7_behind_80 fRX7_161 (o11 (by decide)) rfl rfl ?_
          refine wp_iret dX7_behind_83 rfl rfl ?_
          refine ⟨_, _, rfl, rfl, ?_, hF36.tr hF44⟩
          rw [bh_yes (c := c) (y := y) ⟨h7, h11, Or.inl h16⟩ hm60, k48]
          exact hV44.1.2.1
        · refine wp_aload_n dX7_behind_84 rfl rfl ?_
          refine wn_getR dX7_behind_85 fRX7_19 o10 rfl rfl rfl ?_
          refine wn_getI dX7_behind_88 fRX7_180 (o11 (by decide)) rfl rfl ?_
          refine wp_iret dX7_behind_91 rfl rfl ?_
          refine ⟨_, _, rfl, rfl, ?_, hF36.tr hF44⟩
          rw [bh_yes (c := c) (y := y) ⟨h7, h11, Or.inl h16⟩ hm60, k48]
          exact hV44.1.1.sc 6 (by decide)
        · refine wp_aload_n dX7_behind_92 rfl rfl ?_
          refine wn_getR dX7_behind_93 fRX7_19 o10 rfl rfl rfl ?_
          refine wn_callV0d dX7_behind_96 rRX7_174 (rcv_of (o11 (by decide)) rfl) (Nat.le_of_ble_eq_true rfl)  (Nat.le_of_ble_eq_true rfl) rfl (c3_spelt (by decide) hV44.1.1 hV44.1.2.2.1 hc hL44.1 hL44.2.1 hL44.2.2) ?_
          refine wp_iret dX7_behind_99 rfl rfl ?_
          refine ⟨_, _, rfl, rfl, ?_, hF36.tr hF44⟩
          rw [bh_yes (c := c) (y := y) ⟨h7, h11, Or.inl h16⟩ hm60, k48]
          rfl
        · exact (i02n h11 h16 n48_0 n48_1 n48_2).elim
      · refine wp_aload_n dX7_behind_19 rfl rfl ?_
        refine wn_getR dX7_behind_20 fRX7_10 o10 rfl rfl rfl ?_
        refine wp_iload_n dX7_behind_23 rfl rfl ?_
        refine wp_iconst (v := 3) dX7_behind_24 (by decide) rfl ?_
        refine wp_isub dX7_behind_25 rfl ?_
        refine wn_callV1d dX7_behind_26 rRX7_77 (rcv_of (o11 (by decide)) rfl) (Nat.le_of_ble_eq_true rfl) rfl (Nat.le_of_ble_eq_true rfl) rfl (c3_hasLog (by decide)) ?_
        refine wp_if_ne_b (t := 35) dX7_behind_29 rfl rfl (fun h29 => ?_) (fun h29 => ?_)
        · rw [hlc] at h29
          have hz := h29.1
          obtain ⟨g, hgc, hg⟩ := log_nat hc h29.1
          rw [hg] at hz
          have hg12 : g < 12 := by omega
          refine wp_aload_n dX7_behind_35 rfl rfl ?_
          refine wn_callV0n dX7_behind_36 rRX7_186 (rcv_of o10 rfl) (Nat.le_of_ble_eq_true rfl)  (Nat.le_of_ble_eq_true rfl) rfl (c7_startThought h hW.1.2.2.2.1) (fun s36 hq36 => ?_)
          obtain ⟨hV36, hF36⟩ := hq36
          refine wp_aload_n dX7_behind_39 rfl rfl ?_
          refine wn_getR dX7_behind_40 fRX7_19 o10 rfl rfl rfl ?_
          refine wp_iload_n dX7_behind_43 rfl rfl ?_
          refine wn_callV1n dX7_behind_44 rRX7_167 (rcv_of (o11 (by decide)) rfl) (Nat.le_of_ble_eq_true rfl) rfl (Nat.le_of_ble_eq_true rfl) rfl (c3_weeksQ (by decide) (by decide) (by omega) hV36 hW) (fun s44 hq44 => ?_)
          obtain ⟨hV44, hF44⟩ := hq44
          have hL44 := hL.weks m
          have hW44 := Wr.weks m _ hW
          have hcn : cn (weks m f) = c := hW44.1.cn
          refine wp_iload_n dX7_behind_47 rfl rfl ?_
          refine wp_tsw3 (c0 := 0) (c1 := 1) (c2 := 2) (t0 := 76) (t1 := 84) (t2 := 92) (t := 100) dX7_behind_48 rfl (by decide) (by decide) (by decide) rfl rfl rfl rfl rfl rfl rfl (fun k48 => ?_) (fun k48 => ?_) (fun k48 => ?_) (fun n48_0 n48_1 n48_2 => ?_)
          · refine wp_aload_n dX7_behind_76 rfl rfl ?_
            refine wn_getR dX7_behind_77 fRX7_19 o10 rfl rfl rfl ?_
            refine wn_getI dX7_behind_80 fRX7_161 (o11 (by decide)) rfl rfl ?_
            refine wp_iret dX7_behind_83 rfl rfl ?_
            refine ⟨_, _, rfl, rfl, ?_, hF36.tr hF44⟩
            rw [bh_yes (c := c) (y := y) ⟨h7, h11, Or.inr (by rw [hg]; exact hz)⟩ hm60, k48]
            exact hV44.1.2.1
          · refine wp_aload_n dX7_behind_84 rfl rfl ?_
            refine wn_getR dX7_behind_85 fRX7_19 o10 rfl rfl rfl ?_
            refine wn_getI dX7_behind_88 fRX7_180 (o11 (by decide)) rfl rfl ?_
            refine wp_iret dX7_behind_91 rfl rfl ?_
            refine ⟨_, _, rfl, rfl, ?_, hF36.tr hF44⟩
            rw [bh_yes (c := c) (y := y) ⟨h7, h11, Or.inr (by rw [hg]; exact hz)⟩ hm60, k48]
            exact hV44.1.1.sc 6 (by decide)
          · refine wp_aload_n dX7_behind_92 rfl rfl ?_
            refine wn_getR dX7_behind_93 fRX7_19 o10 rfl rfl rfl ?_
            refine wn_callV0d dX7_behind_96 rRX7_174 (rcv_of (o11 (by decide)) rfl) (Nat.le_of_ble_eq_true rfl)  (Nat.le_of_ble_eq_true rfl) rfl (c3_spelt (by decide) hV44.1.1 hV44.1.2.2.1 hc hL44.1 hL44.2.1 hL44.2.2) ?_
            refine wp_iret dX7_behind_99 rfl rfl ?_
            refine ⟨_, _, rfl, rfl, ?_, hF36.tr hF44⟩
            rw [bh_yes (c := c) (y := y) ⟨h7, h11, Or.inr (by rw [hg]; exact hz)⟩ hm60, k48]
            rfl
          · refine wp_aload_n dX7_behind_100 rfl rfl ?_
            refine wn_getR dX7_behind_101 fRX7_19 o10 rfl rfl rfl ?_
            refine wn_getR dX7_behind_104 fRX7_80 (o11 (by decide)) rfl rfl rfl ?_
            refine wp_iload_n dX7_behind_107 rfl rfl ?_
            refine wp_iconst (v := 3) dX7_behind_108 (by decide) rfl ?_
            refine wp_isub dX7_behind_109 rfl ?_
            rw [hg]
            refine wn_aald13 dX7_behind_110 (by decide) (nIx rfl (by omega)) hg12 rfl ?_
            refine wn_getI dX7_behind_111 fRX7_95 (o12 (by decide) hg12) rfl rfl ?_
            refine wp_iret dX7_behind_114 rfl rfl ?_
            refine ⟨_, _, rfl, rfl, ?_, hF36.tr hF44⟩
            rw [bh_yes (c := c) (y := y) ⟨h7, h11, Or.inr (by rw [hg]; exact hz)⟩ hm60, bhV_3 n48_0 n48_1 n48_2 hg hg12]
            exact hV44.1.1.lg (by rw [hcn]; exact hgc) hg12 (by decide)
        · refine wp_ldc dX7_behind_32 kRX7_68 rfl ?_
          refine wp_iret dX7_behind_34 rfl rfl ?_
          exact ⟨_, _, rfl, rfl, (bh_no (bh_nl h16 (fun z => h29 (by obtain ⟨g, hgc, hg⟩ := log_nat hc z; rw [hlc]; exact ⟨z, by rw [hg]; exact (nI_ltI (b := 12) (by omega) (by omega)).mpr (by omega)⟩)))).symm, FH.rf⟩
def whG (n7 c : Nat) : Nat → Nat → Fl → Int32
  | 0, _, _ => -1000000005
  | m + 1, n, f => if spl f n7 c 26 = n7 then nI n else whG n7 c m (n + 1) (wek f)
theorem spl_n {f : Fl} {c : Nat} : ∀ n, (∀ k, k < n → ∃ x, x < 26 ∧ f (9 + k) = nI x) → spl f n c 26 ≤ n
  | 0, _ => by rw [spl_0]; exact Nat.le_refl _
  | n + 1, h => by
    have h1 := spl_n (c := c) n (fun k hk => h k (by omega))
    obtain ⟨x, hx, hl⟩ := h n (by omega)
    have h2 := spl_st (c := c) hx hl 26 (Nat.le_refl _)
    rw [if_pos hx, if_pos hx] at h2
    omega
theorem weks_s (k : Nat) (f : Fl) : wek (weks k f) = weks (k + 1) f := weks_add k 1 f
theorem l8_whole {s : Sn} {c c8 n7 : Nat} (hW : Wq (s.1 (41, 0, 0)) c c8) (hL : LL (s.1 (41, 0, 0)) n7) : ∀ k, k ≤ 201 → ∀ s1 : Sn, s1.1 (41, 0, 0) = weks k (s.1 (41, 0, 0)) → BE s1 (s.1 (41, 0, 0)) → Fr XB s s1 → Wp (d + 5) MX8_whole 6 [some (vR 40 0 0), some (vI (nI k))] [] (hN s1) (Pv fun z t => z = whG n7 c (201 - k) k (weks k (s.1 (41, 0, 0))) ∧ t.1 (41, 0, 0) = (s.1 (41, 0, 0)) ∧ Fr XB s t) := by
  refine ind_up (fun k hk ih => ?_)
  intro s1 e1 hB hF
  have hWk := Wq.weks k _ hW
  have hLk := hL.weks k
  have hsn := spl_n (c := c) n7 hLk.2.2
  have hn12 := hL.2.1
  have hp : ∀ q, 105 ≤ q → s1.1 (41, 0, 0) q = (s.1 (41, 0, 0)) q := fun q hq => by rw [e1, weks_hi hq k _ hW]
  refine wp_iload_n dX8_whole_6 rfl rfl ?_
  refine wp_sipush (v := 200) dX8_whole_7 (by decide) rfl ?_
  refine wp_icmp_gt (t := 37) dX8_whole_10 rfl rfl (fun h10 => ?_) (fun h10 => ?_)
  · have hk201 : k = 201 := by have := (nI_ltI (a := 200) (by omega) (by omega)).mp h10; omega
    refine wp_aload_n dX8_whole_37 rfl rfl ?_
    refine wn_callV0n dX8_whole_38 rRX8_159 (rcv_of o40 rfl) (Nat.le_of_ble_eq_true rfl)  (Nat.le_of_ble_eq_true rfl) rfl (c8_putsBack hB hp) (fun s38 hq38 => ?_)
    obtain ⟨e38, hF38⟩ := hq38
    refine wp_iload_n dX8_whole_41 rfl rfl ?_
    refine wp_sipush (v := 200) dX8_whole_42 (by decide) rfl ?_
    refine wp_icmp_le (t := 53) dX8_whole_45 rfl rfl (fun h45 => absurd ((nI_leI (b := 200) (by omega) (by omega)).mp h45) (by omega)) (fun h45 => ?_)
    refine wp_ldc dX8_whole_48 kRX8_149 rfl ?_
    refine wp_goto (t := 54) dX8_whole_50 rfl ?_
    refine wp_iret dX8_whole_54 rfl rfl ?_
    refine ⟨_, _, rfl, rfl, ?_, e38, hF.tr (hF38.wd (fun r h => XW_B r (X0_W r h)))⟩
    rw [show 201 - k = 0 by omega]
    rfl
  · have hk200 : k ≤ 200 := by have := mt (nI_ltI (a := 200) (by omega) (by omega)).mpr h10; omega
    refine wp_aload_n dX8_whole_13 rfl rfl ?_
    refine wn_callV0d dX8_whole_14 rRX8_150 (rcv_of o40 rfl) (Nat.le_of_ble_eq_true rfl)  (Nat.le_of_ble_eq_true rfl) rfl (c8_spelt hL.2.1 (by rw [e1]; exact hLk.1) (c := c) hW.2.1 (by rw [e1]; exact hWk.1)) ?_
    refine wp_aload_n dX8_whole_17 rfl rfl ?_
    refine wn_getR dX8_whole_18 fRX8_9 o40 rfl rfl rfl ?_
    refine wp_bipush (v := 7) dX8_whole_21 (by decide) rfl ?_
    refine wn_iald (j := 7) dX8_whole_23 (o41 0 rfl) rfl ⟨by decide, by decide⟩ (Nat.le_of_ble_eq_true rfl) rfl ?_
    rw [e1, hLk.1]
    refine wp_icmp_ge (t := 37) dX8_whole_24 rfl rfl (fun h24 => ?_) (fun h24 => ?_)
    · have hsp : spl (weks k (s.1 (41, 0, 0))) n7 c 26 = n7 := by have := (nI_leI (by omega) (by omega)).mp h24; omega
      refine wp_aload_n dX8_whole_37 rfl rfl ?_
      refine wn_callV0n dX8_whole_38 rRX8_159 (rcv_of o40 rfl) (Nat.le_of_ble_eq_true rfl)  (Nat.le_of_ble_eq_true rfl) rfl (c8_putsBack hB hp) (fun s38 hq38 => ?_)
      obtain ⟨e38, hF38⟩ := hq38
      refine wp_iload_n dX8_whole_41 rfl rfl ?_
      refine wp_sipush (v := 200) dX8_whole_42 (by decide) rfl ?_
      refine wp_icmp_le (t := 53) dX8_whole_45 rfl rfl (fun h45 => ?_) (fun h45 => absurd ((nI_leI (b := 200) (by omega) (by omega)).mpr hk200) h45)
      refine wp_iload_n dX8_whole_53 rfl rfl ?_
      refine wp_iret dX8_whole_54 rfl rfl ?_
      refine ⟨_, _, rfl, rfl, ?_, e38, hF.tr (hF38.wd (fun r h => XW_B r (X0_W r h)))⟩
      rw [show 201 - k = (201 - (k + 1)) + 1 by omega, whG, if_pos hsp]
    · have hsp : ¬ spl (weks k (s.1 (41, 0, 0))) n7 c 26 = n7 := fun z => h24 ((nI_leI (by omega) (by omega)).mpr (by omega))
      refine wp_aload_n dX8_whole_27 rfl rfl ?_
      refine wn_callV0n dX8_whole_28 rRX8_143 (rcv_of o40 rfl) (Nat.le_of_ble_eq_true rfl)  (Nat.le_of_ble_eq_true rfl) rfl (c8_week (c := c) (c8 := c8) (by rw [e1]; exact hWk)) (fun s28 hq28 => ?_)
      obtain ⟨e28, hF28⟩ := hq28
      refine wp_iinc (l' := [_, some _]) (v := 1) dX8_whole_31 rfl (by decide) rfl rfl ?_
      refine wp_goto (t := 6) dX8_whole_34 rfl ?_
      rw [nI_1]
      refine (ih (by omega) s28 (by rw [e28, e1, weks_s]) (hB.fr hF28 (by decide)) (hF.tr (hF28.wd XW_B))).conseq ?_
      rintro v σ ⟨z, t, rfl, rfl, hz, ht⟩
      refine ⟨z, t, rfl, rfl, ?_, ht⟩
      rw [hz, show 201 - k = (201 - (k + 1)) + 1 by omega, whG, if_neg hsp, weks_s]
theorem c8_whole {s : Sn} {c c8 n7 : Nat} (hW : Wq (s.1 (41, 0, 0)) c c8) (hL : LL (s.1 (41, 0, 0)) n7) : Ca (d + 5) MX8_whole [vR 40 0 0] (hN s) (Pv fun z t => z = whG n7 c 201 0 (s.1 (41, 0, 0)) ∧ t.1 (41, 0, 0) = (s.1 (41, 0, 0)) ∧ Fr XB s t) := by
  change Wp _ _ 0 [some _, none] [] _ _
  refine wp_aload_n dX8_whole_0 rfl rfl ?_
  refine wn_callV0n dX8_whole_1 rRX8_156 (rcv_of o40 rfl) (Nat.le_of_ble_eq_true rfl)  (Nat.le_of_ble_eq_true rfl) rfl (c8_thinks rfl) (fun s1 hq1 => ?_)
  obtain ⟨hB1, hF1⟩ := hq1
  have e1 := hF1.1 (41, 0, 0) (by decide)
  refine wp_iconst (v := 0) dX8_whole_4 (by decide) rfl ?_
  refine wp_istore_n (l' := [_, some _]) dX8_whole_5 rfl rfl ?_
  exact l8_whole hW hL 0 (Nat.zero_le _) s1 e1 hB1 (hF1.wd X3_B)
theorem l7_whole {s : Sn} {f : Fl} {c c8 n7 : Nat} (hW : Wr f c c8) (hL : LL f n7) : ∀ k, k ≤ 201 → ∀ s1 : Sn, RVL s1 2 (weks k f) c c8 → FH s s1 → Wp (d + 5) MX7_whole 6 [some (vR 10 0 0), some (vI (nI k))] [] (hN s1) (Pv fun z t => z = whG n7 c (201 - k) k (weks k f) ∧ FH s t) := by
  refine ind_up (fun k hk ih => ?_)
  intro s1 h1 hF
  have hWk := Wr.weks k _ hW
  have hLk := hL.weks k
  have hsn := spl_n (c := c) n7 hLk.2.2
  have hn12 := hL.2.1
  have h7 : s1.1 (11, 2, 0) 7 = nI n7 := (h1.1.1.sc 7 (by decide)).trans hLk.1
  refine wp_iload_n dX7_whole_6 rfl rfl ?_
  refine wp_sipush (v := 200) dX7_whole_7 (by decide) rfl ?_
  refine wp_icmp_gt (t := 45) dX7_whole_10 rfl rfl (fun h10 => ?_) (fun h10 => ?_)
  · have hk201 : k = 201 := by have := (nI_ltI (a := 200) (by omega) (by omega)).mp h10; omega
    refine wp_ldc dX7_whole_45 kRX7_192 rfl ?_
    refine wp_iret dX7_whole_47 rfl rfl ?_
    refine ⟨_, _, rfl, rfl, ?_, hF⟩
    rw [show 201 - k = 0 by omega]
    rfl
  · have hk200 : k ≤ 200 := by have := mt (nI_ltI (a := 200) (by omega) (by omega)).mpr h10; omega
    refine wp_aload_n dX7_whole_13 rfl rfl ?_
    refine wn_getR dX7_whole_14 fRX7_19 o10 rfl rfl rfl ?_
    refine wn_callV0d dX7_whole_17 rRX7_174 (rcv_of (o11 (by decide)) rfl) (Nat.le_of_ble_eq_true rfl)  (Nat.le_of_ble_eq_true rfl) rfl (c3_spelt (by decide) h1.1.1 h1.1.2.2.1 h1.1.2.2.2 hLk.1 hLk.2.1 hLk.2.2) ?_
    refine wp_aload_n dX7_whole_20 rfl rfl ?_
    refine wn_getR dX7_whole_21 fRX7_19 o10 rfl rfl rfl ?_
    refine wn_getI dX7_whole_24 fRX7_146 (o11 (by decide)) rfl rfl ?_
    rw [h7]
    refine wp_icmp_ne (t := 32) dX7_whole_27 rfl rfl (fun h27 => ?_) (fun h27 => ?_)
    · refine wp_aload_n dX7_whole_32 rfl rfl ?_
      refine wn_getR dX7_whole_33 fRX7_19 o10 rfl rfl rfl ?_
      refine wn_callV0n dX7_whole_36 rRX7_189 (rcv_of (o11 (by decide)) rfl) (Nat.le_of_ble_eq_true rfl)  (Nat.le_of_ble_eq_true rfl) rfl (c3_weekQ (by decide) (by decide) h1 hWk) (fun s36 hq36 => ?_)
      obtain ⟨h36, hF36⟩ := hq36
      refine wp_iinc (l' := [_, some _]) (v := 1) dX7_whole_39 rfl (by decide) rfl rfl ?_
      refine wp_goto (t := 6) dX7_whole_42 rfl ?_
      rw [nI_1]
      refine (ih (by omega) s36 (by rw [← weks_s]; exact h36) (hF.tr hF36)).conseq ?_
      rintro v σ ⟨z, t, rfl, rfl, hz, ht⟩
      refine ⟨z, t, rfl, rfl, ?_, ht⟩
      rw [hz, show 201 - k = (201 - (k + 1)) + 1 by omega, whG, if_neg (fun z => h27 (by rw [z])), weks_s]
    · refine wp_iload_n dX7_whole_30 rfl rfl ?_
      refine wp_iret dX7_whole_31 rfl rfl ?_
      refine ⟨_, _, rfl, rfl, ?_, hF⟩
      rw [show 201 - k = (201 - (k + 1)) + 1 by omega, whG, if_pos ((nI_eq (by omega) (by omega)).mp h27)]
theorem c7_whole {s : Sn} {f : Fl} {c c8 n7 : Nat} (h : RVL s 0 f c c8) (hW : Wr f c c8) (hL : LL f n7) : Ca (d + 5) MX7_whole [vR 10 0 0] (hN s) (Pv fun z t => z = whG n7 c 201 0 f ∧ FH s t) := by
  change Wp _ _ 0 [some _, none] [] _ _
  refine wp_aload_n dX7_whole_0 rfl rfl ?_
  refine wn_callV0n dX7_whole_1 rRX7_186 (rcv_of o10 rfl) (Nat.le_of_ble_eq_true rfl)  (Nat.le_of_ble_eq_true rfl) rfl (c7_startThought h hW.1.2.2.2.1) (fun s1 hq1 => ?_)
  obtain ⟨hV1, hF1⟩ := hq1
  refine wp_iconst (v := 0) dX7_whole_4 (by decide) rfl ?_
  refine wp_istore_n (l' := [_, some _]) dX7_whole_5 rfl rfl ?_
  exact l7_whole hW hL 0 (Nat.zero_le _) s1 hV1 hF1
end
