section
variable {d i : Nat}
theorem RV.lg {s : Sn} {f : Fl} {c g u : Nat} {v : Int32} (h : RV s i f c) (hu : u < 3) : RV (sI s (12, i, g) u v) i (upd f (45 + 5 * g + u) v) c := by
  obtain ⟨hR, h13, h1, hc⟩ := h
  have hne : ((11, i, 0) : Rf) ≠ (12, i, g) := by intro z; exact absurd (congrArg Prod.fst z) (by show ¬ 11 = 12; decide)
  exact ⟨RC.pt (q := ((12, i, g), u)) hR (rc_lg (by omega)) (by omega), by rw [sI_nr hne, mny_oth (by omega) (fun q => by omega)]; exact h13, by rw [upd_ne (by omega)]; exact h1, hc⟩
theorem c7_set {s : Sn} {f : Fl} {c : Nat} {x w v : Int32} (hV : RV s 0 f c) : Ca (d + 2) MX7_set [vR 10 0 0, vI x, vI w, vI v] (hN s) (Pv fun y t => y = stA f c x w v ∧ RV t 0 (stF f c x w v) c ∧ FQ (XR 0) s t) := by
  change Wp _ _ 0 [some _, some _, some _, some _, none, none] [] _ _
  have hc := hV.2.2.2
  have hlc : s.1 (11, 0, 0) 6 = nI c := (hV.1.sc 1 (by decide)).trans hV.2.2.1
  have hcn : cn f = c := by unfold cn; rw [hV.2.2.1, nI_clamp (by omega)]
  refine wp_aload_n dX7_set_0 rfl rfl ?_
  refine wn_getR dX7_set_1 fRX7_10 o10 rfl rfl rfl ?_
  refine wp_iload_n dX7_set_4 rfl rfl ?_
  refine wn_callV1d dX7_set_5 rRX7_77 (rcv_of (o11 (by decide)) rfl) (Nat.le_of_ble_eq_true rfl) rfl (Nat.le_of_ble_eq_true rfl) rfl (c3_hasLog (by decide)) ?_
  refine wp_if_ne_b (t := 14) dX7_set_8 rfl rfl (fun h8 => ?_) (fun h8 => ?_)
  · obtain ⟨g, hg, rfl⟩ := log_nat hc (by rw [← hlc]; exact h8.1)
    have hg12 : g < 12 := by omega
    refine wp_aload_n dX7_set_14 rfl rfl ?_
    refine wn_getR dX7_set_15 fRX7_10 o10 rfl rfl rfl ?_
    refine wn_getR dX7_set_18 fRX7_80 (o11 (by decide)) rfl rfl rfl ?_
    refine wp_iload_n dX7_set_21 rfl rfl ?_
    refine wn_aald13 dX7_set_22 (by decide) (nIx rfl (by omega)) hg12 rfl ?_
    refine wp_astore (l' := [_, _, _, _, some _, _]) dX7_set_23 rfl rfl ?_
    refine wp_ldc dX7_set_25 kRX7_68 rfl ?_
    refine wp_istore (l' := [_, _, _, _, _, some _]) dX7_set_27 rfl rfl ?_
    refine wp_iload_n dX7_set_29 rfl rfl ?_
    refine wp_iconst (v := 1) dX7_set_30 (by decide) rfl ?_
    refine wp_icmp_ne (t := 57) dX7_set_31 rfl rfl (fun h31 => ?_) (fun h31 => ?_)
    · refine wp_iload_n dX7_set_57 rfl rfl ?_
      refine wp_iconst (v := 2) dX7_set_58 (by decide) rfl ?_
      refine wp_icmp_ne (t := 82) dX7_set_59 rfl rfl (fun h59 => ?_) (fun h59 => ?_)
      · refine wp_iload dX7_set_82 rfl rfl ?_
        refine wp_iret dX7_set_84 rfl rfl ?_
        obtain ⟨e1, e2⟩ := st_no (f := f) (c := c) (show ¬ stO c (nI g) w v from fun z => by rcases z.2 with z | z; exact h31 z.1; exact h59 z.1)
        exact ⟨_, _, rfl, rfl, e1.symm, by rw [e2]; exact hV, FQ.rf⟩
      · refine wp_iload_n dX7_set_62 rfl rfl ?_
        refine wn_callS1d dX7_set_63 rRX7_65 (Nat.le_of_ble_eq_true rfl) rfl (Nat.le_of_ble_eq_true rfl) rfl (c7_isMass) ?_
        refine wp_if_eq_b (t := 82) dX7_set_66 rfl rfl (fun h66 => ?_) (fun h66 => ?_)
        · refine wp_iload dX7_set_82 rfl rfl ?_
          refine wp_iret dX7_set_84 rfl rfl ?_
          obtain ⟨e1, e2⟩ := st_no (f := f) (c := c) (show ¬ stO c (nI g) w v from fun z => by rcases z.2 with z | z; exact h31 z.1; exact h66 z.2)
          exact ⟨_, _, rfl, rfl, e1.symm, by rw [e2]; exact hV, FQ.rf⟩
        · refine wp_aload dX7_set_69 rfl rfl ?_
          refine wn_getI dX7_set_71 fRX7_92 (o12 (by decide) hg12) rfl rfl ?_
          rw [show s.1 (12, 0, g) 2 = f (45 + 5 * g + 2) from hV.1.lg (by omega) hg12 (by decide)]
          refine wp_istore (l' := [_, _, _, _, _, some _]) dX7_set_74 rfl rfl ?_
          refine wp_aload dX7_set_76 rfl rfl ?_
          refine wp_iload_n dX7_set_78 rfl rfl ?_
          refine wn_putI dX7_set_79 fRX7_92 (o12 (by decide) hg12) rfl rfl rfl ?_
          refine wp_iload dX7_set_82 rfl rfl ?_
          refine wp_iret dX7_set_84 rfl rfl ?_
          have hw2 : w = 2 := h59
          obtain ⟨e1, e2⟩ := st_yes (f := f) (c := c) (g := g) (u := 2) (v := v) ⟨nat_log hc hg, Or.inr ⟨rfl, h66⟩⟩ hg12 (by decide)
          rw [hw2]
          exact ⟨_, _, rfl, rfl, e1.symm, by rw [show (2 : Int32) = nI 2 from rfl, e2]; exact hV.lg (by decide), FQ.rf.pt (Or.inr ⟨rfl, Or.inr (Or.inl rfl)⟩)⟩
    · refine wp_iload_n dX7_set_34 rfl rfl ?_
      refine wn_callS1d dX7_set_35 rRX7_62 (Nat.le_of_ble_eq_true rfl) rfl (Nat.le_of_ble_eq_true rfl) rfl (c7_isLetter) ?_
      refine wp_if_eq_b (t := 57) dX7_set_38 rfl rfl (fun h38 => ?_) (fun h38 => ?_)
      · refine wp_iload_n dX7_set_57 rfl rfl ?_
        refine wp_iconst (v := 2) dX7_set_58 (by decide) rfl ?_
        refine wp_icmp_ne (t := 82) dX7_set_59 rfl rfl (fun h59 => ?_) (fun h59 => absurd (h31.symm.trans h59) (by decide))
        refine wp_iload dX7_set_82 rfl rfl ?_
        refine wp_iret dX7_set_84 rfl rfl ?_
        obtain ⟨e1, e2⟩ := st_no (f := f) (c := c) (show ¬ stO c (nI g) w v from fun z => by rcases z.2 with z | z; exact h38 z.2; exact absurd (h31.symm.trans z.1) (by decide))
        exact ⟨_, _, rfl, rfl, e1.symm, by rw [e2]; exact hV, FQ.rf⟩
      · refine wp_aload dX7_set_41 rfl rfl ?_
        refine wn_getI dX7_set_43 fRX7_89 (o12 (by decide) hg12) rfl rfl ?_
        rw [show s.1 (12, 0, g) 1 = f (45 + 5 * g + 1) from hV.1.lg (by omega) hg12 (by decide)]
        refine wp_istore (l' := [_, _, _, _, _, some _]) dX7_set_46 rfl rfl ?_
        refine wp_aload dX7_set_48 rfl rfl ?_
        refine wp_iload_n dX7_set_50 rfl rfl ?_
        refine wn_putI dX7_set_51 fRX7_89 (o12 (by decide) hg12) rfl rfl rfl ?_
        refine wp_goto (t := 82) dX7_set_54 rfl ?_
        refine wp_iload dX7_set_82 rfl rfl ?_
        refine wp_iret dX7_set_84 rfl rfl ?_
        have hw1 : w = 1 := h31
        obtain ⟨e1, e2⟩ := st_yes (f := f) (c := c) (g := g) (u := 1) (v := v) ⟨nat_log hc hg, Or.inl ⟨rfl, h38⟩⟩ hg12 (by decide)
        rw [hw1]
        exact ⟨_, _, rfl, rfl, e1.symm, by rw [show (1 : Int32) = nI 1 from rfl, e2]; exact hV.lg (by decide), FQ.rf.pt (Or.inr ⟨rfl, Or.inr (Or.inl rfl)⟩)⟩
  · refine wp_ldc dX7_set_11 kRX7_68 rfl ?_
    refine wp_iret dX7_set_13 rfl rfl ?_
    obtain ⟨e1, e2⟩ := st_no (f := f) (c := c) (show ¬ stO c x w v from fun z => by obtain ⟨g, hg, rfl⟩ := log_nat hc z.1; exact h8 ⟨by rw [hlc]; exact z.1, (nI_ltI (b := 12) (by omega) (by omega)).mpr (by omega)⟩)
    exact ⟨_, _, rfl, rfl, e1.symm, by rw [e2]; exact hV, FQ.rf⟩
end
