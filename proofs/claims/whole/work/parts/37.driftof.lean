section
variable {d i : Nat}
def X36 : Rf → Prop := fun r => r.1 = 36
theorem c3_driftOf {s : Sn} {f : Fl} {c c8 j : Nat} {r : Option Rf} (hi : i < 4) (hR : RC s i f) (hW : Wr f c c8) (hL : LW s i f c8 0 r) (hj : j < c) : Ca (d + 2) MX3_driftOf [vR 11 i 0, vR 12 i j, .inr (.inr r)] (hN s) (Pv fun x t => x = drf f j ∧ FQ X36 s t) := by
  have hj12 : j < 12 := by have := hW.1.2.1; omega
  have hcn : cn f = c := hW.1.cn
  have h8 := hW.1.2.2.1
  have hc8 := hW.1.2.2.2.1
  have hK : s.1 (12, i, j) 0 = f (45 + 5 * j + 0) := hR.lg (by omega) hj12 (by decide)
  have hM : s.1 (12, i, j) 2 = f (45 + 5 * j + 2) := hR.lg (by omega) hj12 (by decide)
  have hE : s.1 (12, i, j) 3 = f (45 + 5 * j + 3) := hR.lg (by omega) hj12 (by decide)
  have hFl : s.1 (11, i, 0) 9 = f 3 := hR.sc 3 (by decide)
  rcases hL with ⟨hno, rfl⟩ | ⟨t, n, ho, hn, rfl, hLR⟩
  · change Wp _ _ 0 [some _, some _, some _, none] [] _ _
    refine wp_aload_n dX3_driftOf_0 rfl rfl ?_
    refine wp_ifnonnullN dX3_driftOf_1 rfl ?_
    refine wp_iconst (v := 0) dX3_driftOf_4 (by decide) rfl ?_
    refine wp_aload_n dX3_driftOf_5 rfl rfl ?_
    refine wn_getI dX3_driftOf_6 fRX3_46 (o11 hi) rfl rfl ?_
    refine wp_aload_n dX3_driftOf_9 rfl rfl ?_
    refine wn_getI dX3_driftOf_10 fRX3_88 (o12 hi hj12) rfl rfl ?_
    refine wp_bipush (v := 10) dX3_driftOf_13 (by decide) rfl ?_
    refine wp_idiv dX3_driftOf_15 (by decide) rfl ?_
    refine wp_isub dX3_driftOf_16 rfl ?_
    refine wp_max dX3_driftOf_17 rRX3_117 (by omega) (Nat.le_of_ble_eq_true rfl) rfl ?_
    refine wp_goto (t := 45) dX3_driftOf_20 rfl ?_
    refine wp_istore_n (l' := [_, _, _, some _]) dX3_driftOf_45 rfl rfl ?_
    refine wp_aload_n dX3_driftOf_46 rfl rfl ?_
    refine wp_iload_n dX3_driftOf_47 rfl rfl ?_
    refine wp_aload_n dX3_driftOf_48 rfl rfl ?_
    refine wn_getI dX3_driftOf_49 fRX3_46 (o11 hi) rfl rfl ?_
    refine wn_callV2d dX3_driftOf_52 rRX3_130 (rcv_of (o12 hi hj12) rfl) (Nat.le_of_ble_eq_true rfl) rfl rfl (Nat.le_of_ble_eq_true rfl) rfl (c1_driftFrom hi hj12) ?_
    refine wp_iret dX3_driftOf_55 rfl rfl ?_
    refine ⟨_, _, rfl, rfl, ?_, FQ.rf⟩
    obtain ⟨fl, hfl, efl⟩ := hW.2.2.1
    obtain ⟨m, hm, em⟩ := hW.2.1 j hj12
    have ed : f 3 - f (45 + 5 * j + 2) / 10 = nI fl - nI (m / 10) := by rw [efl, em, show (10 : Int32) = nI 10 from rfl, pk_div (by omega) (by omega) (by omega)]
    rw [drf_none h8 hc8 hno, hK, hFl, hM, ed, max12 fl hfl (m / 10) (by omega)]
    obtain ⟨k, hk, ek⟩ := wth12 (nI fl - nI (m / 10))
    rw [ek]
    exact kdc_kdr hk
  · obtain ⟨hk1, hk2, m, hm96, hrm, hlen, hcf⟩ := hLR
    obtain ⟨n2, hn2, hrm2, hwf⟩ := hW.1.2.2.2.2.1 t (cts_lt ho).1
    have hnm : n2 = m := by rw [hrm] at hrm2; exact ((nI_eq (by omega) (by omega)).mp hrm2).symm
    subst hnm
    have hev : ∀ fa, (evl fa (cdl (fun k => f (133 + 96 * t + k)) n2) []).headD 0 = evT f t fa := by
      intro fa
      have e1 : nco f t = n2 := by unfold nco; rw [hrm, nI_clamp (by omega)]
      unfold evT
      rw [e1]
      rfl
    change Wp _ _ 0 [some _, some _, some _, none] [] _ _
    refine wp_aload_n dX3_driftOf_0 rfl rfl ?_
    refine wp_ifnonnullS (t := 23) dX3_driftOf_1 (Nat.le_of_ble_eq_true rfl) rfl ?_
    refine wp_aload_n dX3_driftOf_23 rfl rfl ?_
    refine wp_aload_n dX3_driftOf_24 rfl rfl ?_
    refine wn_getI dX3_driftOf_25 fRX3_46 (o11 hi) rfl rfl ?_
    refine wp_aload_n dX3_driftOf_28 rfl rfl ?_
    refine wn_getI dX3_driftOf_29 fRX3_88 (o12 hi hj12) rfl rfl ?_
    refine wp_aload_n dX3_driftOf_32 rfl rfl ?_
    refine wn_getI dX3_driftOf_33 fRX3_91 (o12 hi hj12) rfl rfl ?_
    refine wn_callV3i dX3_driftOf_36 rRX3_123 (rcv_of (o34 hn) rfl) (Nat.le_of_ble_eq_true rfl) rfl rfl rfl (Nat.le_of_ble_eq_true rfl) rfl (c0_give (cf := fun k => f (133 + 96 * t + k)) hn hlen hm96 hcf hwf) (fun x36 s36 hq36 => ?_)
    obtain ⟨e36, hF36⟩ := hq36
    rw [hev] at e36
    have hq1 : ∀ k, s36.1 (11, i, 0) k = s.1 (11, i, 0) k := fun k => by rw [hF36.1 _ (fun z => absurd (congrArg Prod.fst (List.mem_singleton.mp z)) (by show ¬ 11 = 36; decide))]
    have hq2 : ∀ k, s36.1 (12, i, j) k = s.1 (12, i, j) k := fun k => by rw [hF36.1 _ (fun z => absurd (congrArg Prod.fst (List.mem_singleton.mp z)) (by show ¬ 12 = 36; decide))]
    refine wp_iconst (v := 0) dX3_driftOf_39 (by decide) rfl ?_
    refine wp_bipush (v := 12) dX3_driftOf_40 (by decide) rfl ?_
    refine wn_callS3d dX3_driftOf_42 rRX3_127 (Nat.le_of_ble_eq_true rfl) rfl rfl rfl (Nat.le_of_ble_eq_true rfl) rfl (c7_hold) ?_
    refine wp_istore_n (l' := [_, _, _, some _]) dX3_driftOf_45 rfl rfl ?_
    refine wp_aload_n dX3_driftOf_46 rfl rfl ?_
    refine wp_iload_n dX3_driftOf_47 rfl rfl ?_
    refine wp_aload_n dX3_driftOf_48 rfl rfl ?_
    refine wn_getI dX3_driftOf_49 fRX3_46 (o11 hi) rfl rfl ?_
    refine wn_callV2d dX3_driftOf_52 rRX3_130 (rcv_of (o12 hi hj12) rfl) (Nat.le_of_ble_eq_true rfl) rfl rfl (Nat.le_of_ble_eq_true rfl) rfl (c1_driftFrom hi hj12) ?_
    refine wp_iret dX3_driftOf_55 rfl rfl ?_
    refine ⟨_, _, rfl, rfl, ?_, hF36.fq (fun r hr => by rw [List.mem_singleton.mp hr]; rfl)⟩
    rw [hq1, hq2, hK, hFl, hld_wth, e36, hE, hM, hFl, drf_some h8 hc8 ho]
    obtain ⟨k, hk, ek⟩ := wth12 (evT f t (fa3 (f 3) (f (45 + 5 * j + 2)) (f (45 + 5 * j + 3))))
    rw [ek]
    exact kdc_kdr hk
end
