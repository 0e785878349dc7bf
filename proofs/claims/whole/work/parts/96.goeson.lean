/-! THE PURE PART, 77: the class's reader goes on -/
section
variable {d : Nat}
/-- what going on does -/
def GP (o : Option PZ) (f : Nat) (s : Sn) (y : Int32) (t : Sn) : Prop := (o = none → y = 0 ∧ t = s) ∧ ∀ z', o = some z' → y = 1 ∧ ∃ z1, CR z1 t ∧ OR2 s t ∧ SV (zwf z1) (zh z1) ∧ zc z1 + zh z1 ≤ f + 1 ∧ z' = if zwt z1 = true then z1 else sz z1 6
theorem GP_n {o : Option PZ} {f : Nat} {s : Sn} (h : o = none) : GP o f s 0 s := ⟨fun _ => ⟨rfl, rfl⟩, fun z' q => by rw [h] at q; cases q⟩
theorem GP_s {o : Option PZ} {f : Nat} {s t : Sn} {z1 z2 : PZ} (h : o = some z2) (hz : z2 = if zwt z1 = true then z1 else sz z1 6) (hc : CR z1 t ∧ OR2 s t) (hv : SV (zwf z1) (zh z1)) (hb : zc z1 + zh z1 ≤ f + 1) : GP o f s 1 t := by
  refine ⟨fun q => ?_, fun z' q => ?_⟩
  · rw [h] at q; cases q
  · rw [h] at q
    obtain rfl := Option.some.inj q
    exact ⟨rfl, z1, hc.1, hc.2, hv, hb, hz⟩
theorem wsT : (List.range 256).all (fun b => decide (¬ srt (nI b) = 0 → sgn 3 (nI b) = 0 ∧ ¬ i8 (nI b) = 41 ∧ b < 128)) = true := by decide +kernel
theorem ws_t {b : Nat} (hb : b < 256) : ¬ srt (nI b) = 0 → sgn 3 (nI b) = 0 ∧ ¬ i8 (nI b) = 41 ∧ b < 128 := of_decide_eq_true (List.all_eq_true.mp wsT b (List.mem_range.mpr hb))
theorem sgn_n {T v : Int32} (h : ¬ T = 3) : sgn T v = 0 := if_neg h
theorem mem_11 : (-10 : Int32) ∈ sgs ∧ (-11 : Int32) ∈ sgs := by decide
theorem hpz_v {z : PZ} (hV : SV (zwf z) (zh z)) : SV (zwf (hpZ (sz z 0) (zh (sz z 0) - 1) (zp z - 1))) (zh (hpZ (sz z 0) (zh (sz z 0) - 1) (zp z - 1))) := hV.le (show zh (sz z 0) - 1 ≤ zh z by have := (sz_c (z := z) (ls := 0)).2; omega)
theorem hpz_c {z : PZ} {f : Nat} (hI : IV f z) : zc (hpZ (sz z 0) (zh (sz z 0) - 1) (zp z - 1)) + zh (hpZ (sz z 0) (zh (sz z 0) - 1) (zp z - 1)) ≤ f + 1 := by
  have h1 := (sz_c (z := z) (ls := 0)).1
  have h2 := hI.1
  show zc (sz z 0) + (zh (sz z 0) - 1) ≤ f + 1
  omega
theorem c2_goesOn {s : Sn} {tp : Fl} {n f kk : Nat} {en : Int32} {z : PZ} (hn : n ≤ 96) (hT : TP s tp n) (hQ : TQ tp) (hX : TT s) (e6 : s.1 (20, 0, 0) 6 = nI kk) (hk : kk < 3) (e12 : s.1 (20, 0, 0) 12 = nI f) (e13 : s.1 (20, 0, 0) 13 = nI (gN tp n f)) (hf1 : 1 ≤ f) (hfn : f < n) (hen : ¬ srt (tp f) = 0 → (¬ srt (tp (f - 1)) = 0 ↔ nI f = en)) (h : CR z s) (hI : IV f z) (hV : SV (zwf z) (zh z)) : Ca (d + 6) MX2_goesOn [vR 20 0 0] (hN s) (Pv fun y t => GP (pst (nI kk) (gT tp n f en) (gV tp n f 0) (gN tp n f - f) z) f s y t) := by
  change Wp _ _ 0 [some _, none] [] _ _
  obtain ⟨b, hb, eb⟩ := hQ f (by omega)
  have hX8 : btA tp n f = i8 (nI b) := by unfold btA; rw [if_pos hfn, eb]
  have hgn := gN_le (tp := tp) (n := n) (f := f) (by omega)
  have hne : ¬ f = n := by omega
  have hlt := hgn.2.2 hfn
  have hs8 := srt_8 hb
  have hpred : nI f - 1 = nI (f - 1) := by rw [show nI f = nI ((f - 1) + 1) by rw [show f - 1 + 1 = f by omega], nI_pred]
  have a5 := h.2.2.2.2.1
  have hI1 := hI.1
  have hp8 := hI.2.2.1
  have hnb : nts (zwf z) (zh z) ≤ zh z := ctr_le _ _
  by_cases hs : srt (tp f) = 0
  · have hL : ¬ isL tp n f := fun q => by rw [srt_1.mpr q.2] at hs; exact absurd hs (by decide)
    have hF : ¬ isF tp n f := fun q => by rw [srt_2.mpr ⟨lf_no q.2, q.2⟩] at hs; exact absurd hs (by decide)
    have hgT : gT tp n f en = 3 := by unfold gT; rw [if_neg hne, if_neg hL, if_neg hF]
    have hgV : gV tp n f 0 = nI b := by unfold gV; rw [if_neg hne, if_neg hL, if_neg hF]; exact eb
    have hgl : gN tp n f - f = 1 := by rw [gN_S hne hL hF]; omega
    rw [hgT, hgV, hgl]
    have hs0 : srt (i8 (nI b)) = 0 := by rw [hs8, ← eb]; exact hs
    by_cases hw : zwt z = true
    · by_cases hA : nI b = 33 ∧ nts (zwf z) (zh z) < 8
      · have h33 : i8 (nI b) = 33 := (i8_eq hb (c := 33) (by decide)).mpr hA.1
        refine wp_aload_n dX2_goesOn_0 rfl rfl ?_
        refine wn_getR dX2_goesOn_1 fRX2_12 o20 rfl rfl rfl ?_
        refine wp_aload_n dX2_goesOn_4 rfl rfl ?_
        refine wn_getI dX2_goesOn_5 fRX2_54 o20 rfl rfl ?_
        rw [e12]
        refine wn_callV1d dX2_goesOn_8 rRX2_88 (rcv_of o21 rfl) (Nat.le_of_ble_eq_true rfl) rfl (Nat.le_of_ble_eq_true rfl) rfl (c6_byteAt hn (by omega) hT) ?_
        refine wp_istore_n (l' := [_, some _]) dX2_goesOn_11 rfl rfl ?_
        rw [hX8]
        refine wp_iload_n dX2_goesOn_12 rfl rfl ?_
        refine wn_callS1d dX2_goesOn_13 rRX2_92 (Nat.le_of_ble_eq_true rfl) rfl (Nat.le_of_ble_eq_true rfl) rfl (c2_sortOf) ?_
        rw [hs8]
        refine wp_if_eq (t := 40) dX2_goesOn_16 rfl rfl (fun h16 => ?_) (fun h16 => absurd (eb ▸ hs) h16)
        refine wp_aload_n dX2_goesOn_40 rfl rfl ?_
        refine wn_getI dX2_goesOn_41 fRX2_50 o20 rfl rfl ?_
        rw [a5]
        refine wp_if_eq (t := 55) dX2_goesOn_44 rfl rfl (fun h44 => absurd hw (bI_0.mp h44)) (fun h44 => ?_)
        refine wp_aload_n dX2_goesOn_47 rfl rfl ?_
        refine wp_iload_n dX2_goesOn_48 rfl rfl ?_
        rw [h33]
        refine wn_callV1i dX2_goesOn_49 rRX2_119 (rcv_of o20 rfl) (Nat.le_of_ble_eq_true rfl) rfl (Nat.le_of_ble_eq_true rfl) rfl (c2_tpB h hI (by omega) hA.2) (fun x49 s49 hq49 => ?_)
        obtain ⟨ey, hr⟩ := hq49
        subst ey
        refine wp_goto (t := 60) dX2_goesOn_52 rfl ?_
        refine wp_iret dX2_goesOn_60 rfl (by decide) ?_
        exact ⟨_, _, rfl, rfl, GP_s (z1 := psh z (-10)) (pst_A hw ⟨rfl, hA⟩) (if_pos (show zwt (psh z (-10)) = true from hw)).symm hr (hV.up mem_11.1) ((hI.nt hw).1)⟩
      · by_cases hB : nI b = 40 ∧ zp z < 8
        · have h40 : i8 (nI b) = 40 := (i8_eq hb (c := 40) (by decide)).mpr hB.1
          refine wp_aload_n dX2_goesOn_0 rfl rfl ?_
          refine wn_getR dX2_goesOn_1 fRX2_12 o20 rfl rfl rfl ?_
          refine wp_aload_n dX2_goesOn_4 rfl rfl ?_
          refine wn_getI dX2_goesOn_5 fRX2_54 o20 rfl rfl ?_
          rw [e12]
          refine wn_callV1d dX2_goesOn_8 rRX2_88 (rcv_of o21 rfl) (Nat.le_of_ble_eq_true rfl) rfl (Nat.le_of_ble_eq_true rfl) rfl (c6_byteAt hn (by omega) hT) ?_
          refine wp_istore_n (l' := [_, some _]) dX2_goesOn_11 rfl rfl ?_
          rw [hX8]
          refine wp_iload_n dX2_goesOn_12 rfl rfl ?_
          refine wn_callS1d dX2_goesOn_13 rRX2_92 (Nat.le_of_ble_eq_true rfl) rfl (Nat.le_of_ble_eq_true rfl) rfl (c2_sortOf) ?_
          rw [hs8]
          refine wp_if_eq (t := 40) dX2_goesOn_16 rfl rfl (fun h16 => ?_) (fun h16 => absurd (eb ▸ hs) h16)
          refine wp_aload_n dX2_goesOn_40 rfl rfl ?_
          refine wn_getI dX2_goesOn_41 fRX2_50 o20 rfl rfl ?_
          rw [a5]
          refine wp_if_eq (t := 55) dX2_goesOn_44 rfl rfl (fun h44 => absurd hw (bI_0.mp h44)) (fun h44 => ?_)
          refine wp_aload_n dX2_goesOn_47 rfl rfl ?_
          refine wp_iload_n dX2_goesOn_48 rfl rfl ?_
          rw [h40]
          refine wn_callV1i dX2_goesOn_49 rRX2_119 (rcv_of o20 rfl) (Nat.le_of_ble_eq_true rfl) rfl (Nat.le_of_ble_eq_true rfl) rfl (c2_tpO h hI (by omega) hB.2) (fun x49 s49 hq49 => ?_)
          obtain ⟨ey, hr⟩ := hq49
          subst ey
          refine wp_goto (t := 60) dX2_goesOn_52 rfl ?_
          refine wp_iret dX2_goesOn_60 rfl (by decide) ?_
          exact ⟨_, _, rfl, rfl, GP_s (z1 := opZ z) (pst_B hw (fun q => hA q.2) ⟨rfl, hB⟩) (if_pos (show zwt (opZ z) = true from hw)).symm hr (hV.up mem_11.2) ((hI.op hw hB.2).1)⟩
        · refine wp_aload_n dX2_goesOn_0 rfl rfl ?_
          refine wn_getR dX2_goesOn_1 fRX2_12 o20 rfl rfl rfl ?_
          refine wp_aload_n dX2_goesOn_4 rfl rfl ?_
          refine wn_getI dX2_goesOn_5 fRX2_54 o20 rfl rfl ?_
          rw [e12]
          refine wn_callV1d dX2_goesOn_8 rRX2_88 (rcv_of o21 rfl) (Nat.le_of_ble_eq_true rfl) rfl (Nat.le_of_ble_eq_true rfl) rfl (c6_byteAt hn (by omega) hT) ?_
          refine wp_istore_n (l' := [_, some _]) dX2_goesOn_11 rfl rfl ?_
          rw [hX8]
          refine wp_iload_n dX2_goesOn_12 rfl rfl ?_
          refine wn_callS1d dX2_goesOn_13 rRX2_92 (Nat.le_of_ble_eq_true rfl) rfl (Nat.le_of_ble_eq_true rfl) rfl (c2_sortOf) ?_
          rw [hs8]
          refine wp_if_eq (t := 40) dX2_goesOn_16 rfl rfl (fun h16 => ?_) (fun h16 => absurd (eb ▸ hs) h16)
          refine wp_aload_n dX2_goesOn_40 rfl rfl ?_
          refine wn_getI dX2_goesOn_41 fRX2_50 o20 rfl rfl ?_
          rw [a5]
          refine wp_if_eq (t := 55) dX2_goesOn_44 rfl rfl (fun h44 => absurd hw (bI_0.mp h44)) (fun h44 => ?_)
          refine wp_aload_n dX2_goesOn_47 rfl rfl ?_
          refine wp_iload_n dX2_goesOn_48 rfl rfl ?_
          refine wn_callV1d dX2_goesOn_49 rRX2_119 (rcv_of o20 rfl) (Nat.le_of_ble_eq_true rfl) rfl (Nat.le_of_ble_eq_true rfl) rfl (c2_tpN h hp8 (by omega) hs0 (fun q => hA ⟨(i8_eq hb (c := 33) (by decide)).mp q.1, q.2⟩) (fun q => hB ⟨(i8_eq hb (c := 40) (by decide)).mp q.1, q.2⟩)) ?_
          refine wp_goto (t := 60) dX2_goesOn_52 rfl ?_
          refine wp_iret dX2_goesOn_60 rfl (by decide) ?_
          exact ⟨_, _, rfl, rfl, GP_n (pst_D hw (fun q => hA q.2) (fun q => hB q.2) (fun q => q.elim (fun q => absurd q (by decide)) (fun q => absurd q.1 (by decide))))⟩
    · have hw0 : zwt z = false := Bool.eq_false_iff.mpr hw
      by_cases h41 : nI b = 41
      · have h41x : i8 (nI b) = 41 := (i8_eq hb (c := 41) (by decide)).mpr h41
        by_cases hp : 0 < zp z
        · refine wp_aload_n dX2_goesOn_0 rfl rfl ?_
          refine wn_getR dX2_goesOn_1 fRX2_12 o20 rfl rfl rfl ?_
          refine wp_aload_n dX2_goesOn_4 rfl rfl ?_
          refine wn_getI dX2_goesOn_5 fRX2_54 o20 rfl rfl ?_
          rw [e12]
          refine wn_callV1d dX2_goesOn_8 rRX2_88 (rcv_of o21 rfl) (Nat.le_of_ble_eq_true rfl) rfl (Nat.le_of_ble_eq_true rfl) rfl (c6_byteAt hn (by omega) hT) ?_
          refine wp_istore_n (l' := [_, some _]) dX2_goesOn_11 rfl rfl ?_
          rw [hX8]
          refine wp_iload_n dX2_goesOn_12 rfl rfl ?_
          refine wn_callS1d dX2_goesOn_13 rRX2_92 (Nat.le_of_ble_eq_true rfl) rfl (Nat.le_of_ble_eq_true rfl) rfl (c2_sortOf) ?_
          rw [hs8]
          refine wp_if_eq (t := 40) dX2_goesOn_16 rfl rfl (fun h16 => ?_) (fun h16 => absurd (eb ▸ hs) h16)
          refine wp_aload_n dX2_goesOn_40 rfl rfl ?_
          refine wn_getI dX2_goesOn_41 fRX2_50 o20 rfl rfl ?_
          rw [a5]
          refine wp_if_eq (t := 55) dX2_goesOn_44 rfl rfl (fun h44 => ?_) (fun h44 => absurd (bI_0.mpr hw) h44)
          refine wp_aload_n dX2_goesOn_55 rfl rfl ?_
          refine wp_iload_n dX2_goesOn_56 rfl rfl ?_
          rw [h41x]
          refine wn_callV1i dX2_goesOn_57 rRX2_123 (rcv_of o20 rfl) (Nat.le_of_ble_eq_true rfl) rfl (Nat.le_of_ble_eq_true rfl) rfl (c2_takesSign41 h hI hV hw0 (by omega) hp) (fun x57 s57 hq57 => ?_)
          obtain ⟨ey, hr⟩ := hq57
          subst ey
          refine wp_iret dX2_goesOn_60 rfl (by decide) ?_
          exact ⟨_, _, rfl, rfl, GP_s (z1 := hpZ (sz z 0) (zh (sz z 0) - 1) (zp z - 1)) (pst_E hw ⟨rfl, h41, hp⟩) (if_neg (show ¬ zwt (hpZ (sz z 0) (zh (sz z 0) - 1) (zp z - 1)) = true from hw)).symm hr (hpz_v hV) (hpz_c hI)⟩
        · refine wp_aload_n dX2_goesOn_0 rfl rfl ?_
          refine wn_getR dX2_goesOn_1 fRX2_12 o20 rfl rfl rfl ?_
          refine wp_aload_n dX2_goesOn_4 rfl rfl ?_
          refine wn_getI dX2_goesOn_5 fRX2_54 o20 rfl rfl ?_
          rw [e12]
          refine wn_callV1d dX2_goesOn_8 rRX2_88 (rcv_of o21 rfl) (Nat.le_of_ble_eq_true rfl) rfl (Nat.le_of_ble_eq_true rfl) rfl (c6_byteAt hn (by omega) hT) ?_
          refine wp_istore_n (l' := [_, some _]) dX2_goesOn_11 rfl rfl ?_
          rw [hX8]
          refine wp_iload_n dX2_goesOn_12 rfl rfl ?_
          refine wn_callS1d dX2_goesOn_13 rRX2_92 (Nat.le_of_ble_eq_true rfl) rfl (Nat.le_of_ble_eq_true rfl) rfl (c2_sortOf) ?_
          rw [hs8]
          refine wp_if_eq (t := 40) dX2_goesOn_16 rfl rfl (fun h16 => ?_) (fun h16 => absurd (eb ▸ hs) h16)
          refine wp_aload_n dX2_goesOn_40 rfl rfl ?_
          refine wn_getI dX2_goesOn_41 fRX2_50 o20 rfl rfl ?_
          rw [a5]
          refine wp_if_eq (t := 55) dX2_goesOn_44 rfl rfl (fun h44 => ?_) (fun h44 => absurd (bI_0.mpr hw) h44)
          refine wp_aload_n dX2_goesOn_55 rfl rfl ?_
          refine wp_iload_n dX2_goesOn_56 rfl rfl ?_
          rw [h41x]
          refine wn_callV1d dX2_goesOn_57 rRX2_123 (rcv_of o20 rfl) (Nat.le_of_ble_eq_true rfl) rfl (Nat.le_of_ble_eq_true rfl) rfl (c2_takesSign41N (by rw [h.2.2.1, show zp z = 0 by omega]; rfl)) ?_
          refine wp_iret dX2_goesOn_60 rfl (by decide) ?_
          exact ⟨_, _, rfl, rfl, GP_n (pst_F hw (fun q => hp q.2.2) (Or.inl (by rw [h41]; rfl)))⟩
      · by_cases hR : sgn 3 (nI b) = 0 ∨ (rnk (sgn 3 (nI b)) = 3 ∧ zte z (zp z) = true)
        · refine wp_aload_n dX2_goesOn_0 rfl rfl ?_
          refine wn_getR dX2_goesOn_1 fRX2_12 o20 rfl rfl rfl ?_
          refine wp_aload_n dX2_goesOn_4 rfl rfl ?_
          refine wn_getI dX2_goesOn_5 fRX2_54 o20 rfl rfl ?_
          rw [e12]
          refine wn_callV1d dX2_goesOn_8 rRX2_88 (rcv_of o21 rfl) (Nat.le_of_ble_eq_true rfl) rfl (Nat.le_of_ble_eq_true rfl) rfl (c6_byteAt hn (by omega) hT) ?_
          refine wp_istore_n (l' := [_, some _]) dX2_goesOn_11 rfl rfl ?_
          rw [hX8]
          refine wp_iload_n dX2_goesOn_12 rfl rfl ?_
          refine wn_callS1d dX2_goesOn_13 rRX2_92 (Nat.le_of_ble_eq_true rfl) rfl (Nat.le_of_ble_eq_true rfl) rfl (c2_sortOf) ?_
          rw [hs8]
          refine wp_if_eq (t := 40) dX2_goesOn_16 rfl rfl (fun h16 => ?_) (fun h16 => absurd (eb ▸ hs) h16)
          refine wp_aload_n dX2_goesOn_40 rfl rfl ?_
          refine wn_getI dX2_goesOn_41 fRX2_50 o20 rfl rfl ?_
          rw [a5]
          refine wp_if_eq (t := 55) dX2_goesOn_44 rfl rfl (fun h44 => ?_) (fun h44 => absurd (bI_0.mpr hw) h44)
          refine wp_aload_n dX2_goesOn_55 rfl rfl ?_
          refine wp_iload_n dX2_goesOn_56 rfl rfl ?_
          refine wn_callV1d dX2_goesOn_57 rRX2_123 (rcv_of o20 rfl) (Nat.le_of_ble_eq_true rfl) rfl (Nat.le_of_ble_eq_true rfl) rfl (c2_takesSignN h hI hV hw0 (by omega) hb (fun q => h41 ((i8_eq hb (c := 41) (by decide)).mp q)) hR) ?_
          refine wp_iret dX2_goesOn_60 rfl (by decide) ?_
          exact ⟨_, _, rfl, rfl, GP_n (pst_F hw (fun q => h41 q.2.1) hR)⟩
        · refine wp_aload_n dX2_goesOn_0 rfl rfl ?_
          refine wn_getR dX2_goesOn_1 fRX2_12 o20 rfl rfl rfl ?_
          refine wp_aload_n dX2_goesOn_4 rfl rfl ?_
          refine wn_getI dX2_goesOn_5 fRX2_54 o20 rfl rfl ?_
          rw [e12]
          refine wn_callV1d dX2_goesOn_8 rRX2_88 (rcv_of o21 rfl) (Nat.le_of_ble_eq_true rfl) rfl (Nat.le_of_ble_eq_true rfl) rfl (c6_byteAt hn (by omega) hT) ?_
          refine wp_istore_n (l' := [_, some _]) dX2_goesOn_11 rfl rfl ?_
          rw [hX8]
          refine wp_iload_n dX2_goesOn_12 rfl rfl ?_
          refine wn_callS1d dX2_goesOn_13 rRX2_92 (Nat.le_of_ble_eq_true rfl) rfl (Nat.le_of_ble_eq_true rfl) rfl (c2_sortOf) ?_
          rw [hs8]
          refine wp_if_eq (t := 40) dX2_goesOn_16 rfl rfl (fun h16 => ?_) (fun h16 => absurd (eb ▸ hs) h16)
          refine wp_aload_n dX2_goesOn_40 rfl rfl ?_
          refine wn_getI dX2_goesOn_41 fRX2_50 o20 rfl rfl ?_
          rw [a5]
          refine wp_if_eq (t := 55) dX2_goesOn_44 rfl rfl (fun h44 => ?_) (fun h44 => absurd (bI_0.mpr hw) h44)
          refine wp_aload_n dX2_goesOn_55 rfl rfl ?_
          refine wp_iload_n dX2_goesOn_56 rfl rfl ?_
          refine wn_callV1i dX2_goesOn_57 rRX2_123 (rcv_of o20 rfl) (Nat.le_of_ble_eq_true rfl) rfl (Nat.le_of_ble_eq_true rfl) rfl (c2_takesSign h hI hV hw0 (by omega) hb (fun q => hR (Or.inl q)) (fun q => hR (Or.inr q))) (fun x57 s57 hq57 => ?_)
          obtain ⟨ey, hr⟩ := hq57
          subst ey
          refine wp_iret dX2_goesOn_60 rfl (by decide) ?_
          exact ⟨_, _, rfl, rfl, GP_s (z1 := sgZ z (sgn 3 (nI b))) (pst_G hw (fun q => h41 q.2.1) hR) (if_pos (show zwt (sgZ z (sgn 3 (nI b))) = true from rfl)).symm hr ((hV.le (stl_c (zh z) (zcf z) (zc z)).2.1).up ((sg_t hb).2 (fun q => hR (Or.inl q))).1.2.2) ((hI.sg hw0 (sgn_9 (fun q => hR (Or.inl q)))).1.1)⟩
  · by_cases ha : nI f = en
    · have hadj := (hen hs).mpr ha
      have hgT : gT tp n f en = 4 := by
        unfold gT
        rw [if_neg hne]
        by_cases hL : isL tp n f
        · rw [if_pos hL, if_pos ha]
        · rw [if_neg hL, if_pos (show isF tp n f from ⟨hfn, (srt_2.mp (Decidable.not_not.mp (fun q => hs (srt_0 (fun q1 => hL ⟨hfn, srt_1.mp q1⟩) q)))).2⟩), if_pos (Or.inl ha)]
      have hp4 : (pst (nI kk) (gT tp n f en) (gV tp n f 0) (gN tp n f - f) z) = none := by
        rw [hgT]
        by_cases hw : zwt z = true
        · exact pst_D hw (fun q => absurd q.1 (by decide)) (fun q => absurd q.1 (by decide)) (fun q => q.elim (fun q => absurd q (by decide)) (fun q => absurd q.1 (by decide)))
        · exact pst_F hw (fun q => absurd q.1 (by decide)) (Or.inl (sgn_n (by decide)))
      refine wp_aload_n dX2_goesOn_0 rfl rfl ?_
      refine wn_getR dX2_goesOn_1 fRX2_12 o20 rfl rfl rfl ?_
      refine wp_aload_n dX2_goesOn_4 rfl rfl ?_
      refine wn_getI dX2_goesOn_5 fRX2_54 o20 rfl rfl ?_
      rw [e12]
      refine wn_callV1d dX2_goesOn_8 rRX2_88 (rcv_of o21 rfl) (Nat.le_of_ble_eq_true rfl) rfl (Nat.le_of_ble_eq_true rfl) rfl (c6_byteAt hn (by omega) hT) ?_
      refine wp_istore_n (l' := [_, some _]) dX2_goesOn_11 rfl rfl ?_
      rw [hX8]
      refine wp_iload_n dX2_goesOn_12 rfl rfl ?_
      refine wn_callS1d dX2_goesOn_13 rRX2_92 (Nat.le_of_ble_eq_true rfl) rfl (Nat.le_of_ble_eq_true rfl) rfl (c2_sortOf) ?_
      rw [hs8]
      refine wp_if_eq (t := 40) dX2_goesOn_16 rfl rfl (fun h16 => absurd h16 (eb ▸ hs)) (fun h16 => ?_)
      refine wp_aload_n dX2_goesOn_19 rfl rfl ?_
      refine wn_getR dX2_goesOn_20 fRX2_12 o20 rfl rfl rfl ?_
      refine wp_aload_n dX2_goesOn_23 rfl rfl ?_
      refine wn_getI dX2_goesOn_24 fRX2_54 o20 rfl rfl ?_
      refine wp_iconst (v := 1) dX2_goesOn_27 (by decide) rfl ?_
      refine wp_isub dX2_goesOn_28 rfl ?_
      rw [e12, hpred]
      refine wn_callV1d dX2_goesOn_29 rRX2_88 (rcv_of o21 rfl) (Nat.le_of_ble_eq_true rfl) rfl (Nat.le_of_ble_eq_true rfl) rfl (c6_byteAt hn (by omega) hT) ?_
      refine wn_callS1d dX2_goesOn_32 rRX2_92 (Nat.le_of_ble_eq_true rfl) rfl (Nat.le_of_ble_eq_true rfl) rfl (c2_sortOf) ?_
      rw [btS hn hQ (by omega)]
      refine wp_if_eq (t := 40) dX2_goesOn_35 rfl rfl (fun h35 => absurd h35 hadj) (fun h35 => ?_)
      refine wp_iconst (v := 0) dX2_goesOn_38 (by decide) rfl ?_
      refine wp_iret dX2_goesOn_39 rfl (by decide) ?_
      exact ⟨_, _, rfl, rfl, GP_n (hp4)⟩
    · have hadj : srt (tp (f - 1)) = 0 := Decidable.not_not.mp (fun q => ha ((hen hs).mp q))
      by_cases hw : zwt z = true
      · by_cases hL : isL tp n f
        · have hgT : gT tp n f en = 1 := by unfold gT; rw [if_neg hne, if_pos hL, if_neg ha]
          have hgV : gV tp n f 0 = nI b := by unfold gV; rw [if_neg hne, if_pos hL]; exact eb
          have h1 : srt (nI b) = 1 := by rw [← eb]; exact srt_1.mpr hL.2
          have h128 := (ws_t hb (by rw [h1]; decide)).2.2
          have hxb : i8 (nI b) = nI b := (i8_v hb).1 h128
          rw [hgT, hgV]
          by_cases hq : gN tp n f - f = 1 ∧ ¬ nmO (nI kk) (nI b) < 0
          · refine wp_aload_n dX2_goesOn_0 rfl rfl ?_
            refine wn_getR dX2_goesOn_1 fRX2_12 o20 rfl rfl rfl ?_
            refine wp_aload_n dX2_goesOn_4 rfl rfl ?_
            refine wn_getI dX2_goesOn_5 fRX2_54 o20 rfl rfl ?_
            rw [e12]
            refine wn_callV1d dX2_goesOn_8 rRX2_88 (rcv_of o21 rfl) (Nat.le_of_ble_eq_true rfl) rfl (Nat.le_of_ble_eq_true rfl) rfl (c6_byteAt hn (by omega) hT) ?_
            refine wp_istore_n (l' := [_, some _]) dX2_goesOn_11 rfl rfl ?_
            rw [hX8]
            refine wp_iload_n dX2_goesOn_12 rfl rfl ?_
            refine wn_callS1d dX2_goesOn_13 rRX2_92 (Nat.le_of_ble_eq_true rfl) rfl (Nat.le_of_ble_eq_true rfl) rfl (c2_sortOf) ?_
            rw [hs8]
            refine wp_if_eq (t := 40) dX2_goesOn_16 rfl rfl (fun h16 => absurd h16 (eb ▸ hs)) (fun h16 => ?_)
            refine wp_aload_n dX2_goesOn_19 rfl rfl ?_
            refine wn_getR dX2_goesOn_20 fRX2_12 o20 rfl rfl rfl ?_
            refine wp_aload_n dX2_goesOn_23 rfl rfl ?_
            refine wn_getI dX2_goesOn_24 fRX2_54 o20 rfl rfl ?_
            refine wp_iconst (v := 1) dX2_goesOn_27 (by decide) rfl ?_
            refine wp_isub dX2_goesOn_28 rfl ?_
            rw [e12, hpred]
            refine wn_callV1d dX2_goesOn_29 rRX2_88 (rcv_of o21 rfl) (Nat.le_of_ble_eq_true rfl) rfl (Nat.le_of_ble_eq_true rfl) rfl (c6_byteAt hn (by omega) hT) ?_
            refine wn_callS1d dX2_goesOn_32 rRX2_92 (Nat.le_of_ble_eq_true rfl) rfl (Nat.le_of_ble_eq_true rfl) rfl (c2_sortOf) ?_
            rw [btS hn hQ (by omega)]
            refine wp_if_eq (t := 40) dX2_goesOn_35 rfl rfl (fun h35 => ?_) (fun h35 => absurd hadj h35)
            refine wp_aload_n dX2_goesOn_40 rfl rfl ?_
            refine wn_getI dX2_goesOn_41 fRX2_50 o20 rfl rfl ?_
            rw [a5]
            refine wp_if_eq (t := 55) dX2_goesOn_44 rfl rfl (fun h44 => absurd hw (bI_0.mp h44)) (fun h44 => ?_)
            refine wp_aload_n dX2_goesOn_47 rfl rfl ?_
            refine wp_iload_n dX2_goesOn_48 rfl rfl ?_
            rw [hxb]
            refine wn_callV1i dX2_goesOn_49 rRX2_119 (rcv_of o20 rfl) (Nat.le_of_ble_eq_true rfl) rfl (Nat.le_of_ble_eq_true rfl) rfl (c2_tpL e6 hk e12 e13 (by omega) (by omega) hX h128 h1 h (by omega) hq.1 hq.2) (fun x49 s49 hq49 => ?_)
            obtain ⟨ey, hr⟩ := hq49
            subst ey
            refine wp_goto (t := 60) dX2_goesOn_52 rfl ?_
            refine wp_iret dX2_goesOn_60 rfl (by decide) ?_
            exact ⟨_, _, rfl, rfl, GP_s (z1 := cdZ z (10000 + nmO (nI kk) (nI b))) (pst_C hw (fun q => absurd q.1 (by decide)) (fun q => absurd q.1 (by decide)) (Or.inr ⟨rfl, hq.1, hq.2⟩)) (show ptZ z (ptC (nI kk) 1 (nI b)) = _ from (if_neg (show ¬ zwt (cdZ z (10000 + nmO (nI kk) (nI b))) = true from by show ¬ false = true; decide)).symm) hr (hV) (show zc z + 1 + zh z ≤ f + 1 by omega)⟩
          · refine wp_aload_n dX2_goesOn_0 rfl rfl ?_
            refine wn_getR dX2_goesOn_1 fRX2_12 o20 rfl rfl rfl ?_
            refine wp_aload_n dX2_goesOn_4 rfl rfl ?_
            refine wn_getI dX2_goesOn_5 fRX2_54 o20 rfl rfl ?_
            rw [e12]
            refine wn_callV1d dX2_goesOn_8 rRX2_88 (rcv_of o21 rfl) (Nat.le_of_ble_eq_true rfl) rfl (Nat.le_of_ble_eq_true rfl) rfl (c6_byteAt hn (by omega) hT) ?_
            refine wp_istore_n (l' := [_, some _]) dX2_goesOn_11 rfl rfl ?_
            rw [hX8]
            refine wp_iload_n dX2_goesOn_12 rfl rfl ?_
            refine wn_callS1d dX2_goesOn_13 rRX2_92 (Nat.le_of_ble_eq_true rfl) rfl (Nat.le_of_ble_eq_true rfl) rfl (c2_sortOf) ?_
            rw [hs8]
            refine wp_if_eq (t := 40) dX2_goesOn_16 rfl rfl (fun h16 => absurd h16 (eb ▸ hs)) (fun h16 => ?_)
            refine wp_aload_n dX2_goesOn_19 rfl rfl ?_
            refine wn_getR dX2_goesOn_20 fRX2_12 o20 rfl rfl rfl ?_
            refine wp_aload_n dX2_goesOn_23 rfl rfl ?_
            refine wn_getI dX2_goesOn_24 fRX2_54 o20 rfl rfl ?_
            refine wp_iconst (v := 1) dX2_goesOn_27 (by decide) rfl ?_
            refine wp_isub dX2_goesOn_28 rfl ?_
            rw [e12, hpred]
            refine wn_callV1d dX2_goesOn_29 rRX2_88 (rcv_of o21 rfl) (Nat.le_of_ble_eq_true rfl) rfl (Nat.le_of_ble_eq_true rfl) rfl (c6_byteAt hn (by omega) hT) ?_
            refine wn_callS1d dX2_goesOn_32 rRX2_92 (Nat.le_of_ble_eq_true rfl) rfl (Nat.le_of_ble_eq_true rfl) rfl (c2_sortOf) ?_
            rw [btS hn hQ (by omega)]
            refine wp_if_eq (t := 40) dX2_goesOn_35 rfl rfl (fun h35 => ?_) (fun h35 => absurd hadj h35)
            refine wp_aload_n dX2_goesOn_40 rfl rfl ?_
            refine wn_getI dX2_goesOn_41 fRX2_50 o20 rfl rfl ?_
            rw [a5]
            refine wp_if_eq (t := 55) dX2_goesOn_44 rfl rfl (fun h44 => absurd hw (bI_0.mp h44)) (fun h44 => ?_)
            refine wp_aload_n dX2_goesOn_47 rfl rfl ?_
            refine wp_iload_n dX2_goesOn_48 rfl rfl ?_
            rw [hxb]
            refine wn_callV1d dX2_goesOn_49 rRX2_119 (rcv_of o20 rfl) (Nat.le_of_ble_eq_true rfl) rfl (Nat.le_of_ble_eq_true rfl) rfl (c2_tpLN e6 hk e12 e13 (by omega) (by omega) hX h128 h1 hq) ?_
            refine wp_goto (t := 60) dX2_goesOn_52 rfl ?_
            refine wp_iret dX2_goesOn_60 rfl (by decide) ?_
            exact ⟨_, _, rfl, rfl, GP_n (pst_D hw (fun q => absurd q.1 (by decide)) (fun q => absurd q.1 (by decide)) (fun q => q.elim (fun q => absurd q (by decide)) (fun q => hq ⟨q.2.1, q.2.2⟩)))⟩
        · have h2 : srt (tp f) = 2 := Decidable.not_not.mp (fun q => hs (srt_0 (fun q1 => hL ⟨hfn, srt_1.mp q1⟩) q))
          have hF : isF tp n f := ⟨hfn, (srt_2.mp h2).2⟩
          have hgN := gN_F hne hL hF
          have hd : ∀ k, f ≤ k → k < gN tp n f → isF tp n k := fun k k1 k2 => of_decide_eq_true (run_in (p := pF tp n) (n - f) f k k1 (by rw [← hgN]; exact k2))
          have hx2 : srt (i8 (nI b)) = 2 := by rw [hs8, ← eb]; exact h2
          by_cases h4 : gN tp n f - f ≤ 4
          · have hgT : gT tp n f en = 2 := by unfold gT; rw [if_neg hne, if_neg hL, if_pos hF, if_neg (fun q => q.elim ha (fun q => by omega))]
            have hgV : gV tp n f 0 = num tp f (gN tp n f - f) := by unfold gV; rw [if_neg hne, if_neg hL, if_pos hF, show min 4 (gN tp n f - f) = gN tp n f - f by omega]
            rw [hgT, hgV]
            refine wp_aload_n dX2_goesOn_0 rfl rfl ?_
            refine wn_getR dX2_goesOn_1 fRX2_12 o20 rfl rfl rfl ?_
            refine wp_aload_n dX2_goesOn_4 rfl rfl ?_
            refine wn_getI dX2_goesOn_5 fRX2_54 o20 rfl rfl ?_
            rw [e12]
            refine wn_callV1d dX2_goesOn_8 rRX2_88 (rcv_of o21 rfl) (Nat.le_of_ble_eq_true rfl) rfl (Nat.le_of_ble_eq_true rfl) rfl (c6_byteAt hn (by omega) hT) ?_
            refine wp_istore_n (l' := [_, some _]) dX2_goesOn_11 rfl rfl ?_
            rw [hX8]
            refine wp_iload_n dX2_goesOn_12 rfl rfl ?_
            refine wn_callS1d dX2_goesOn_13 rRX2_92 (Nat.le_of_ble_eq_true rfl) rfl (Nat.le_of_ble_eq_true rfl) rfl (c2_sortOf) ?_
            rw [hs8]
            refine wp_if_eq (t := 40) dX2_goesOn_16 rfl rfl (fun h16 => absurd h16 (eb ▸ hs)) (fun h16 => ?_)
            refine wp_aload_n dX2_goesOn_19 rfl rfl ?_
            refine wn_getR dX2_goesOn_20 fRX2_12 o20 rfl rfl rfl ?_
            refine wp_aload_n dX2_goesOn_23 rfl rfl ?_
            refine wn_getI dX2_goesOn_24 fRX2_54 o20 rfl rfl ?_
            refine wp_iconst (v := 1) dX2_goesOn_27 (by decide) rfl ?_
            refine wp_isub dX2_goesOn_28 rfl ?_
            rw [e12, hpred]
            refine wn_callV1d dX2_goesOn_29 rRX2_88 (rcv_of o21 rfl) (Nat.le_of_ble_eq_true rfl) rfl (Nat.le_of_ble_eq_true rfl) rfl (c6_byteAt hn (by omega) hT) ?_
            refine wn_callS1d dX2_goesOn_32 rRX2_92 (Nat.le_of_ble_eq_true rfl) rfl (Nat.le_of_ble_eq_true rfl) rfl (c2_sortOf) ?_
            rw [btS hn hQ (by omega)]
            refine wp_if_eq (t := 40) dX2_goesOn_35 rfl rfl (fun h35 => ?_) (fun h35 => absurd hadj h35)
            refine wp_aload_n dX2_goesOn_40 rfl rfl ?_
            refine wn_getI dX2_goesOn_41 fRX2_50 o20 rfl rfl ?_
            rw [a5]
            refine wp_if_eq (t := 55) dX2_goesOn_44 rfl rfl (fun h44 => absurd hw (bI_0.mp h44)) (fun h44 => ?_)
            refine wp_aload_n dX2_goesOn_47 rfl rfl ?_
            refine wp_iload_n dX2_goesOn_48 rfl rfl ?_
            refine wn_callV1i dX2_goesOn_49 rRX2_119 (rcv_of o20 rfl) (Nat.le_of_ble_eq_true rfl) rfl (Nat.le_of_ble_eq_true rfl) rfl (c2_tpF hn hT hQ e12 e13 (by omega) hgn.2.1 hx2 hd h (by omega) h4) (fun x49 s49 hq49 => ?_)
            obtain ⟨ey, hr⟩ := hq49
            subst ey
            refine wp_goto (t := 60) dX2_goesOn_52 rfl ?_
            refine wp_iret dX2_goesOn_60 rfl (by decide) ?_
            exact ⟨_, _, rfl, rfl, GP_s (z1 := cdZ z (num tp f (gN tp n f - f))) (pst_C hw (fun q => absurd q.1 (by decide)) (fun q => absurd q.1 (by decide)) (Or.inl rfl)) (show ptZ z (ptC (nI kk) 2 (num tp f (gN tp n f - f))) = _ from (if_neg (show ¬ zwt (cdZ z (num tp f (gN tp n f - f))) = true from by show ¬ false = true; decide)).symm) hr (hV) (show zc z + 1 + zh z ≤ f + 1 by omega)⟩
          · have hgT : gT tp n f en = 4 := by unfold gT; rw [if_neg hne, if_neg hL, if_pos hF, if_pos (Or.inr (by omega))]
            have hp4 : (pst (nI kk) (gT tp n f en) (gV tp n f 0) (gN tp n f - f) z) = none := by
              rw [hgT]
              by_cases hw : zwt z = true
              · exact pst_D hw (fun q => absurd q.1 (by decide)) (fun q => absurd q.1 (by decide)) (fun q => q.elim (fun q => absurd q (by decide)) (fun q => absurd q.1 (by decide)))
              · exact pst_F hw (fun q => absurd q.1 (by decide)) (Or.inl (sgn_n (by decide)))
            refine wp_aload_n dX2_goesOn_0 rfl rfl ?_
            refine wn_getR dX2_goesOn_1 fRX2_12 o20 rfl rfl rfl ?_
            refine wp_aload_n dX2_goesOn_4 rfl rfl ?_
            refine wn_getI dX2_goesOn_5 fRX2_54 o20 rfl rfl ?_
            rw [e12]
            refine wn_callV1d dX2_goesOn_8 rRX2_88 (rcv_of o21 rfl) (Nat.le_of_ble_eq_true rfl) rfl (Nat.le_of_ble_eq_true rfl) rfl (c6_byteAt hn (by omega) hT) ?_
            refine wp_istore_n (l' := [_, some _]) dX2_goesOn_11 rfl rfl ?_
            rw [hX8]
            refine wp_iload_n dX2_goesOn_12 rfl rfl ?_
            refine wn_callS1d dX2_goesOn_13 rRX2_92 (Nat.le_of_ble_eq_true rfl) rfl (Nat.le_of_ble_eq_true rfl) rfl (c2_sortOf) ?_
            rw [hs8]
            refine wp_if_eq (t := 40) dX2_goesOn_16 rfl rfl (fun h16 => absurd h16 (eb ▸ hs)) (fun h16 => ?_)
            refine wp_aload_n dX2_goesOn_19 rfl rfl ?_
            refine wn_getR dX2_goesOn_20 fRX2_12 o20 rfl rfl rfl ?_
            refine wp_aload_n dX2_goesOn_23 rfl rfl ?_
            refine wn_getI dX2_goesOn_24 fRX2_54 o20 rfl rfl ?_
            refine wp_iconst (v := 1) dX2_goesOn_27 (by decide) rfl ?_
            refine wp_isub dX2_goesOn_28 rfl ?_
            rw [e12, hpred]
            refine wn_callV1d dX2_goesOn_29 rRX2_88 (rcv_of o21 rfl) (Nat.le_of_ble_eq_true rfl) rfl (Nat.le_of_ble_eq_true rfl) rfl (c6_byteAt hn (by omega) hT) ?_
            refine wn_callS1d dX2_goesOn_32 rRX2_92 (Nat.le_of_ble_eq_true rfl) rfl (Nat.le_of_ble_eq_true rfl) rfl (c2_sortOf) ?_
            rw [btS hn hQ (by omega)]
            refine wp_if_eq (t := 40) dX2_goesOn_35 rfl rfl (fun h35 => ?_) (fun h35 => absurd hadj h35)
            refine wp_aload_n dX2_goesOn_40 rfl rfl ?_
            refine wn_getI dX2_goesOn_41 fRX2_50 o20 rfl rfl ?_
            rw [a5]
            refine wp_if_eq (t := 55) dX2_goesOn_44 rfl rfl (fun h44 => absurd hw (bI_0.mp h44)) (fun h44 => ?_)
            refine wp_aload_n dX2_goesOn_47 rfl rfl ?_
            refine wp_iload_n dX2_goesOn_48 rfl rfl ?_
            refine wn_callV1d dX2_goesOn_49 rRX2_119 (rcv_of o20 rfl) (Nat.le_of_ble_eq_true rfl) rfl (Nat.le_of_ble_eq_true rfl) rfl (c2_tpFN e12 e13 (by omega) (by omega) hx2 h4) ?_
            refine wp_goto (t := 60) dX2_goesOn_52 rfl ?_
            refine wp_iret dX2_goesOn_60 rfl (by decide) ?_
            exact ⟨_, _, rfl, rfl, GP_n (hp4)⟩
      · have hw0 : zwt z = false := Bool.eq_false_iff.mpr hw
        have hws := ws_t hb (by rw [← eb]; exact hs)
        have hT3 : ¬ gT tp n f en = 3 := by
          unfold gT
          rw [if_neg hne]
          by_cases hL : isL tp n f
          · rw [if_pos hL]; split <;> decide
          · rw [if_neg hL, if_pos (show isF tp n f from ⟨hfn, (srt_2.mp (Decidable.not_not.mp (fun q => hs (srt_0 (fun q1 => hL ⟨hfn, srt_1.mp q1⟩) q)))).2⟩)]; split <;> decide
        refine wp_aload_n dX2_goesOn_0 rfl rfl ?_
        refine wn_getR dX2_goesOn_1 fRX2_12 o20 rfl rfl rfl ?_
        refine wp_aload_n dX2_goesOn_4 rfl rfl ?_
        refine wn_getI dX2_goesOn_5 fRX2_54 o20 rfl rfl ?_
        rw [e12]
        refine wn_callV1d dX2_goesOn_8 rRX2_88 (rcv_of o21 rfl) (Nat.le_of_ble_eq_true rfl) rfl (Nat.le_of_ble_eq_true rfl) rfl (c6_byteAt hn (by omega) hT) ?_
        refine wp_istore_n (l' := [_, some _]) dX2_goesOn_11 rfl rfl ?_
        rw [hX8]
        refine wp_iload_n dX2_goesOn_12 rfl rfl ?_
        refine wn_callS1d dX2_goesOn_13 rRX2_92 (Nat.le_of_ble_eq_true rfl) rfl (Nat.le_of_ble_eq_true rfl) rfl (c2_sortOf) ?_
        rw [hs8]
        refine wp_if_eq (t := 40) dX2_goesOn_16 rfl rfl (fun h16 => absurd h16 (eb ▸ hs)) (fun h16 => ?_)
        refine wp_aload_n dX2_goesOn_19 rfl rfl ?_
        refine wn_getR dX2_goesOn_20 fRX2_12 o20 rfl rfl rfl ?_
        refine wp_aload_n dX2_goesOn_23 rfl rfl ?_
        refine wn_getI dX2_goesOn_24 fRX2_54 o20 rfl rfl ?_
        refine wp_iconst (v := 1) dX2_goesOn_27 (by decide) rfl ?_
        refine wp_isub dX2_goesOn_28 rfl ?_
        rw [e12, hpred]
        refine wn_callV1d dX2_goesOn_29 rRX2_88 (rcv_of o21 rfl) (Nat.le_of_ble_eq_true rfl) rfl (Nat.le_of_ble_eq_true rfl) rfl (c6_byteAt hn (by omega) hT) ?_
        refine wn_callS1d dX2_goesOn_32 rRX2_92 (Nat.le_of_ble_eq_true rfl) rfl (Nat.le_of_ble_eq_true rfl) rfl (c2_sortOf) ?_
        rw [btS hn hQ (by omega)]
        refine wp_if_eq (t := 40) dX2_goesOn_35 rfl rfl (fun h35 => ?_) (fun h35 => absurd hadj h35)
        refine wp_aload_n dX2_goesOn_40 rfl rfl ?_
        refine wn_getI dX2_goesOn_41 fRX2_50 o20 rfl rfl ?_
        rw [a5]
        refine wp_if_eq (t := 55) dX2_goesOn_44 rfl rfl (fun h44 => ?_) (fun h44 => absurd (bI_0.mpr hw) h44)
        refine wp_aload_n dX2_goesOn_55 rfl rfl ?_
        refine wp_iload_n dX2_goesOn_56 rfl rfl ?_
        refine wn_callV1d dX2_goesOn_57 rRX2_123 (rcv_of o20 rfl) (Nat.le_of_ble_eq_true rfl) rfl (Nat.le_of_ble_eq_true rfl) rfl (c2_takesSignN h hI hV hw0 (by omega) hb hws.2.1 (Or.inl hws.1)) ?_
        refine wp_iret dX2_goesOn_60 rfl (by decide) ?_
        exact ⟨_, _, rfl, rfl, GP_n (pst_F hw (fun q => hT3 q.1) (Or.inl (sgn_n hT3)))⟩
end
