section
variable {d i : Nat}
theorem RV.rm {s : Sn} {f : Fl} {c g : Nat} {v : Int32} (h : RV s i f c) (hg : g < 12) : RV (sI s (14, i, 0) g v) i (upd f (21 + 12 * 0 + g) v) c := by
  obtain ⟨hR, h13, h1, hc⟩ := h
  have hne : ((11, i, 0) : Rf) ≠ (14, i, 0) := by intro z; exact absurd (congrArg Prod.fst z) (by show ¬ 11 = 14; decide)
  exact ⟨RC.pt (q := ((14, i, 0), g)) hR (rc_rm hg) (by omega), by rw [sI_nr hne, mny_lo (by omega) (by omega)]; exact h13, by rw [upd_ne (by omega)]; exact h1, hc⟩
theorem RV.bm {s : Sn} {f : Fl} {c g : Nat} {v : Int32} (h : RV s i f c) (hg : g < 12) : RV (sI s (15, i, 0) g v) i (upd f (21 + 12 * 1 + g) v) c := by
  obtain ⟨hR, h13, h1, hc⟩ := h
  have hne : ((11, i, 0) : Rf) ≠ (15, i, 0) := by intro z; exact absurd (congrArg Prod.fst z) (by show ¬ 11 = 15; decide)
  exact ⟨RC.pt (q := ((15, i, 0), g)) hR (rc_bm hg) (by omega), by rw [sI_nr hne, mny_lo (by omega) (by omega)]; exact h13, by rw [upd_ne (by omega)]; exact h1, hc⟩
theorem c7_reach {s : Sn} {f : Fl} {c : Nat} {x w v : Int32} (hV : RV s 0 f c) : Ca (d + 2) MX7_reach [vR 10 0 0, vI x, vI w, vI v] (hN s) (Pv fun y t => y = rhA f x w v ∧ RV t 0 (rhF f x w v) c ∧ FQ (XT 0) s t) := by
  change Wp _ _ 0 [some _, some _, some _, some _, none] [] _ _
  refine wp_iload_n dX7_reach_0 rfl rfl ?_
  refine wn_callS1d dX7_reach_1 rRX7_124 (Nat.le_of_ble_eq_true rfl) rfl (Nat.le_of_ble_eq_true rfl) rfl (c7_isReach) ?_
  refine wp_if_ne_b (t := 10) dX7_reach_4 rfl rfl (fun h4 => ?_) (fun h4 => ?_)
  · obtain ⟨g, hg, rfl⟩ := rch_nat2 h4
    refine wp_ldc dX7_reach_10 kRX7_68 rfl ?_
    refine wp_istore (l' := [_, _, _, _, some _]) dX7_reach_12 rfl rfl ?_
    refine wp_iload_n dX7_reach_14 rfl rfl ?_
    refine wp_if_ne (t := 52) dX7_reach_15 rfl rfl (fun h15 => ?_) (fun h15 => ?_)
    · refine wp_iload_n dX7_reach_52 rfl rfl ?_
      refine wp_iconst (v := 1) dX7_reach_53 (by decide) rfl ?_
      refine wp_icmp_ne (t := 87) dX7_reach_54 rfl rfl (fun h54 => ?_) (fun h54 => ?_)
      · refine wp_iload dX7_reach_87 rfl rfl ?_
        refine wp_iret dX7_reach_89 rfl rfl ?_
        obtain ⟨e1, e2⟩ := rh_no (f := f) (show ¬ rhO (nI g) w v from fun z => by rcases z.2 with z | z; exact h15 z.1; exact h54 z.1)
        exact ⟨_, _, rfl, rfl, e1.symm, by rw [e2]; exact hV, FQ.rf⟩
      · refine wp_iload_n dX7_reach_57 rfl rfl ?_
        refine wp_iconst (v := 0) dX7_reach_58 (by decide) rfl ?_
        refine wp_iconst (v := 1) dX7_reach_59 (by decide) rfl ?_
        refine wn_callS3d dX7_reach_60 rRX7_128 (Nat.le_of_ble_eq_true rfl) rfl rfl rfl (Nat.le_of_ble_eq_true rfl) rfl (c7_within) ?_
        refine wp_if_eq_b (t := 87) dX7_reach_63 rfl rfl (fun h63 => ?_) (fun h63 => ?_)
        · refine wp_iload dX7_reach_87 rfl rfl ?_
          refine wp_iret dX7_reach_89 rfl rfl ?_
          obtain ⟨e1, e2⟩ := rh_no (f := f) (show ¬ rhO (nI g) w v from fun z => by rcases z.2 with z | z; exact h15 z.1; exact h63 z.2)
          exact ⟨_, _, rfl, rfl, e1.symm, by rw [e2]; exact hV, FQ.rf⟩
        · refine wp_aload_n dX7_reach_66 rfl rfl ?_
          refine wn_getR dX7_reach_67 fRX7_10 o10 rfl rfl rfl ?_
          refine wn_getR dX7_reach_70 fRX7_134 (o11 (by decide)) rfl rfl rfl ?_
          refine wp_iload_n dX7_reach_73 rfl rfl ?_
          refine wn_iald dX7_reach_74 (o15 (by decide)) rfl (nIx rfl (by omega)) (show g < 12 from hg) rfl ?_
          rw [show s.1 (15, 0, 0) g = f (21 + 12 * 1 + g) from hV.1.bm hg]
          refine wp_istore (l' := [_, _, _, _, some _]) dX7_reach_75 rfl rfl ?_
          refine wp_aload_n dX7_reach_77 rfl rfl ?_
          refine wn_getR dX7_reach_78 fRX7_10 o10 rfl rfl rfl ?_
          refine wn_getR dX7_reach_81 fRX7_134 (o11 (by decide)) rfl rfl rfl ?_
          refine wp_iload_n dX7_reach_84 rfl rfl ?_
          refine wp_iload_n dX7_reach_85 rfl rfl ?_
          refine wn_iast dX7_reach_86 (o15 (by decide)) rfl (nIx rfl (by omega)) (show g < 12 from hg) rfl ?_
          refine wp_iload dX7_reach_87 rfl rfl ?_
          refine wp_iret dX7_reach_89 rfl rfl ?_
          have hw1 : w = 1 := h54
          obtain ⟨e1, e2⟩ := rh_yes (f := f) (g := g) (u := 1) (v := v) ⟨nat_rch hg, Or.inr ⟨rfl, h63⟩⟩ hg (by decide)
          rw [hw1]
          exact ⟨_, _, rfl, rfl, e1.symm, by rw [show (1 : Int32) = nI 1 from rfl, e2]; exact hV.bm hg, FQ.rf.pt ⟨rfl, Or.inr (Or.inr (Or.inr (Or.inl rfl)))⟩⟩
    · refine wp_iload_n dX7_reach_18 rfl rfl ?_
      refine wp_iconst (v := 1) dX7_reach_19 (by decide) rfl ?_
      refine wp_bipush (v := 12) dX7_reach_20 (by decide) rfl ?_
      refine wn_callS3d dX7_reach_22 rRX7_128 (Nat.le_of_ble_eq_true rfl) rfl rfl rfl (Nat.le_of_ble_eq_true rfl) rfl (c7_within) ?_
      refine wp_if_eq_b (t := 52) dX7_reach_25 rfl rfl (fun h25 => ?_) (fun h25 => ?_)
      · refine wp_iload_n dX7_reach_52 rfl rfl ?_
        refine wp_iconst (v := 1) dX7_reach_53 (by decide) rfl ?_
        refine wp_icmp_ne (t := 87) dX7_reach_54 rfl rfl (fun h54 => ?_) (fun h54 => absurd (h15.symm.trans h54) (by decide))
        refine wp_iload dX7_reach_87 rfl rfl ?_
        refine wp_iret dX7_reach_89 rfl rfl ?_
        obtain ⟨e1, e2⟩ := rh_no (f := f) (show ¬ rhO (nI g) w v from fun z => by rcases z.2 with z | z; exact h25 z.2; exact absurd (h15.symm.trans z.1) (by decide))
        exact ⟨_, _, rfl, rfl, e1.symm, by rw [e2]; exact hV, FQ.rf⟩
      · refine wp_aload_n dX7_reach_28 rfl rfl ?_
        refine wn_getR dX7_reach_29 fRX7_10 o10 rfl rfl rfl ?_
        refine wn_getR dX7_reach_32 fRX7_131 (o11 (by decide)) rfl rfl rfl ?_
        refine wp_iload_n dX7_reach_35 rfl rfl ?_
        refine wn_iald dX7_reach_36 (o14 (by decide)) rfl (nIx rfl (by omega)) (show g < 12 from hg) rfl ?_
        rw [show s.1 (14, 0, 0) g = f (21 + 12 * 0 + g) from hV.1.rm hg]
        refine wp_istore (l' := [_, _, _, _, some _]) dX7_reach_37 rfl rfl ?_
        refine wp_aload_n dX7_reach_39 rfl rfl ?_
        refine wn_getR dX7_reach_40 fRX7_10 o10 rfl rfl rfl ?_
        refine wn_getR dX7_reach_43 fRX7_131 (o11 (by decide)) rfl rfl rfl ?_
        refine wp_iload_n dX7_reach_46 rfl rfl ?_
        refine wp_iload_n dX7_reach_47 rfl rfl ?_
        refine wn_iast dX7_reach_48 (o14 (by decide)) rfl (nIx rfl (by omega)) (show g < 12 from hg) rfl ?_
        refine wp_goto (t := 87) dX7_reach_49 rfl ?_
        refine wp_iload dX7_reach_87 rfl rfl ?_
        refine wp_iret dX7_reach_89 rfl rfl ?_
        have hw0 : w = 0 := h15
        obtain ⟨e1, e2⟩ := rh_yes (f := f) (g := g) (u := 0) (v := v) ⟨nat_rch hg, Or.inl ⟨rfl, h25⟩⟩ hg (by decide)
        rw [hw0]
        exact ⟨_, _, rfl, rfl, e1.symm, by rw [show (0 : Int32) = nI 0 from rfl, e2]; exact hV.rm hg, FQ.rf.pt ⟨rfl, Or.inr (Or.inr (Or.inl rfl))⟩⟩
  · refine wp_ldc dX7_reach_7 kRX7_68 rfl ?_
    refine wp_iret dX7_reach_9 rfl rfl ?_
    obtain ⟨e1, e2⟩ := rh_no (f := f) (show ¬ rhO x w v from fun z => by obtain ⟨g, hg, rfl⟩ := rch_nat z.1; exact h4 ⟨z.1.1, (nI_ltI (b := 12) (by omega) (by omega)).mpr hg⟩)
    exact ⟨_, _, rfl, rfl, e1.symm, by rw [e2]; exact hV, FQ.rf⟩
end
