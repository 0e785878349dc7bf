/-! THE PURE PART, 42: the public method turns -/
section
variable {d i : Nat}
abbrev tuO (c : Nat) (x v : Int32) : Prop := (0 ≤ x ∧ x ≤ nI c - 1) ∧ (0 ≤ v ∧ v ≤ 5)
def tuA (f : Fl) (c : Nat) (x v : Int32) : Int32 := if tuO c x v then f (45 + 5 * x.toNatClampNeg + 0) else -1000000001
def tuF (f : Fl) (c : Nat) (x v : Int32) : Fl := if tuO c x v then upd f (45 + 5 * x.toNatClampNeg + 0) v else f
theorem tu_no {f : Fl} {c : Nat} {x v : Int32} (h : ¬ tuO c x v) : tuA f c x v = -1000000001 ∧ tuF f c x v = f := ⟨if_neg h, if_neg h⟩
theorem tu_yes {f : Fl} {c g : Nat} {v : Int32} (h : tuO c (nI g) v) (hg : g < 12) : tuA f c (nI g) v = f (45 + 5 * g + 0) ∧ tuF f c (nI g) v = upd f (45 + 5 * g + 0) v := by
  unfold tuA tuF
  rw [if_pos h, if_pos h, nI_clamp (by omega)]
  exact ⟨rfl, rfl⟩
theorem ix_l0 {j : Nat} : (45 : Int32) + 5 * nI j = nI (45 + 5 * j + 0) := by
  rw [show (45 : Int32) = nI 45 from rfl, show (5 : Int32) = nI 5 from rfl, pk_mul, nI_add, Nat.add_zero]
theorem c8_turns {s : Sn} {c : Nat} {x v : Int32} (hc : c ≤ 12) (h1 : s.1 (41, 0, 0) 1 = nI c) : Ca (d + 2) MX8_turns [vR 40 0 0, vI x, vI v] (hN s) (Pv fun y t => y = tuA (s.1 (41, 0, 0)) c x v ∧ t.1 (41, 0, 0) = tuF (s.1 (41, 0, 0)) c x v ∧ Fr [(41, 0, 0)] s t) := by
  change Wp _ _ 0 [some _, some _, some _] [] _ _
  refine wp_aload_n dX8_turns_0 rfl rfl ?_
  refine wp_iload_n dX8_turns_1 rfl rfl ?_
  refine wn_callV1d dX8_turns_2 rRX8_103 (rcv_of o40 rfl) (Nat.le_of_ble_eq_true rfl) rfl (Nat.le_of_ble_eq_true rfl) rfl (c8_isLog) ?_
  rw [h1]
  refine wp_if_eq_b (t := 31) dX8_turns_5 rfl rfl (fun h5 => ?_) (fun h5 => ?_)
  · refine wp_ldc dX8_turns_31 kRX8_83 rfl ?_
    refine wp_iret dX8_turns_33 rfl rfl ?_
    obtain ⟨e1, e2⟩ := tu_no (f := (s.1 (41, 0, 0))) (c := c) (show ¬ tuO c x v from fun z => h5 z.1)
    exact ⟨_, _, rfl, rfl, e1.symm, e2.symm, Fr.rf⟩
  · obtain ⟨g, hg, rfl⟩ := log_nat hc h5
    refine wp_iload_n dX8_turns_8 rfl rfl ?_
    refine wp_iconst (v := 0) dX8_turns_9 (by decide) rfl ?_
    refine wp_iconst (v := 5) dX8_turns_10 (by decide) rfl ?_
    refine wn_callS3d dX8_turns_11 rRX8_75 (Nat.le_of_ble_eq_true rfl) rfl rfl rfl (Nat.le_of_ble_eq_true rfl) rfl (c8_in) ?_
    refine wp_if_eq_b (t := 31) dX8_turns_14 rfl rfl (fun h14 => ?_) (fun h14 => ?_)
    · refine wp_ldc dX8_turns_31 kRX8_83 rfl ?_
      refine wp_iret dX8_turns_33 rfl rfl ?_
      obtain ⟨e1, e2⟩ := tu_no (f := (s.1 (41, 0, 0))) (c := c) (show ¬ tuO c (nI g) v from fun z => h14 z.2)
      exact ⟨_, _, rfl, rfl, e1.symm, e2.symm, Fr.rf⟩
    · refine wp_aload_n dX8_turns_17 rfl rfl ?_
      refine wp_bipush (v := 45) dX8_turns_18 (by decide) rfl ?_
      refine wp_iconst (v := 5) dX8_turns_20 (by decide) rfl ?_
      refine wp_iload_n dX8_turns_21 rfl rfl ?_
      refine wp_imul dX8_turns_22 rfl ?_
      refine wp_iadd dX8_turns_23 rfl ?_
      refine wp_iload_n dX8_turns_24 rfl rfl ?_
      rw [ix_l0]
      refine wn_callV2d dX8_turns_25 rRX8_121 (rcv_of o40 rfl) (Nat.le_of_ble_eq_true rfl) rfl rfl (Nat.le_of_ble_eq_true rfl) rfl (c8_becomes (k := 45 + 5 * g + 0) (by omega)) ?_
      refine wp_goto (t := 33) dX8_turns_28 rfl ?_
      refine wp_iret dX8_turns_33 rfl rfl ?_
      obtain ⟨e1, e2⟩ := tu_yes (f := (s.1 (41, 0, 0))) (c := c) (g := g) (v := v) ⟨h5, h14⟩ (by omega)
      refine ⟨_, _, rfl, rfl, e1.symm, ?_, Fr.rf.pt (by decide)⟩
      rw [sI_row]; exact e2.symm
theorem c7_turns {s : Sn} {f : Fl} {c : Nat} {x v : Int32} (hV : RV s 0 f c) : Ca (d + 2) MX7_turns [vR 10 0 0, vI x, vI v] (hN s) (Pv fun y t => y = tuA f c x v ∧ RV t 0 (tuF f c x v) c ∧ FQ (XR 0) s t) := by
  change Wp _ _ 0 [some _, some _, some _, none] [] _ _
  have hc := hV.2.2.2
  have hlc : s.1 (11, 0, 0) 6 = nI c := (hV.1.sc 1 (by decide)).trans hV.2.2.1
  have hcn : cn f = c := by unfold cn; rw [hV.2.2.1, nI_clamp (by omega)]
  refine wp_aload_n dX7_turns_0 rfl rfl ?_
  refine wn_getR dX7_turns_1 fRX7_10 o10 rfl rfl rfl ?_
  refine wp_iload_n dX7_turns_4 rfl rfl ?_
  refine wn_callV1d dX7_turns_5 rRX7_77 (rcv_of (o11 (by decide)) rfl) (Nat.le_of_ble_eq_true rfl) rfl (Nat.le_of_ble_eq_true rfl) rfl (c3_hasLog (by decide)) ?_
  refine wp_if_eq_b (t := 18) dX7_turns_8 rfl rfl (fun h8 => ?_) (fun h8 => ?_)
  · refine wp_ldc dX7_turns_18 kRX7_68 rfl ?_
    refine wp_iret dX7_turns_20 rfl rfl ?_
    obtain ⟨e1, e2⟩ := tu_no (f := f) (c := c) (show ¬ tuO c x v from fun z => by obtain ⟨g, hg, rfl⟩ := log_nat hc z.1; exact h8 ⟨by rw [hlc]; exact z.1, (nI_ltI (b := 12) (by omega) (by omega)).mpr (by omega)⟩)
    exact ⟨_, _, rfl, rfl, e1.symm, by rw [e2]; exact hV, FQ.rf⟩
  · obtain ⟨g, hg, rfl⟩ := log_nat hc (by rw [← hlc]; exact h8.1)
    have hg12 : g < 12 := by omega
    refine wp_iload_n dX7_turns_11 rfl rfl ?_
    refine wn_callS1d dX7_turns_12 rRX7_58 (Nat.le_of_ble_eq_true rfl) rfl (Nat.le_of_ble_eq_true rfl) rfl (c7_isKind) ?_
    refine wp_if_ne_b (t := 21) dX7_turns_15 rfl rfl (fun h15 => ?_) (fun h15 => ?_)
    · refine wp_aload_n dX7_turns_21 rfl rfl ?_
      refine wn_getR dX7_turns_22 fRX7_10 o10 rfl rfl rfl ?_
      refine wn_getR dX7_turns_25 fRX7_80 (o11 (by decide)) rfl rfl rfl ?_
      refine wp_iload_n dX7_turns_28 rfl rfl ?_
      refine wn_aald13 dX7_turns_29 (by decide) (nIx rfl (by omega)) hg12 rfl ?_
      refine wn_getI dX7_turns_30 fRX7_84 (o12 (by decide) hg12) rfl rfl ?_
      rw [show s.1 (12, 0, g) 0 = f (45 + 5 * g + 0) from hV.1.lg (by omega) hg12 (by decide)]
      refine wp_istore_n (l' := [_, _, _, some _]) dX7_turns_33 rfl rfl ?_
      refine wp_aload_n dX7_turns_34 rfl rfl ?_
      refine wn_getR dX7_turns_35 fRX7_10 o10 rfl rfl rfl ?_
      refine wn_getR dX7_turns_38 fRX7_80 (o11 (by decide)) rfl rfl rfl ?_
      refine wp_iload_n dX7_turns_41 rfl rfl ?_
      refine wn_aald13 dX7_turns_42 (by decide) (nIx rfl (by omega)) hg12 rfl ?_
      refine wp_iload_n dX7_turns_43 rfl rfl ?_
      refine wn_putI dX7_turns_44 fRX7_84 (o12 (by decide) hg12) rfl rfl rfl ?_
      refine wp_iload_n dX7_turns_47 rfl rfl ?_
      refine wp_iret dX7_turns_48 rfl rfl ?_
      obtain ⟨e1, e2⟩ := tu_yes (f := f) (c := c) (g := g) (v := v) ⟨nat_log hc hg, h15⟩ hg12
      exact ⟨_, _, rfl, rfl, e1.symm, by rw [e2]; exact hV.lg (by decide), FQ.rf.pt (Or.inr ⟨rfl, Or.inr (Or.inl rfl)⟩)⟩
    · refine wp_ldc dX7_turns_18 kRX7_68 rfl ?_
      refine wp_iret dX7_turns_20 rfl rfl ?_
      obtain ⟨e1, e2⟩ := tu_no (f := f) (c := c) (show ¬ tuO c (nI g) v from fun z => h15 z.2)
      exact ⟨_, _, rfl, rfl, e1.symm, by rw [e2]; exact hV, FQ.rf⟩
end
