/-! THE PURE PART, 35: the public methods log, seed, weeks -/
section
variable {d i : Nat}
theorem nI_subn {a b : Nat} (h : b ≤ a) : nI a - nI b = nI (a - b) := by
  have e : nI a = nI (a - b) + nI b := by rw [nI_add, show a - b + b = a by omega]
  rw [e, Int32.add_sub_cancel]
abbrev okl (k l m : Int32) : Prop := ((0 ≤ k ∧ k ≤ 5) ∧ (0 ≤ l ∧ l ≤ 25)) ∧ (1 ≤ m ∧ m ≤ 50)
def lgA (c : Nat) (k l m : Int32) : Int32 := if okl k l m then (if c = 12 then -1000000003 else nI c) else -1000000001
def lgF (f : Fl) (c : Nat) (k l m : Int32) : Fl := if okl k l m ∧ c ≠ 12 then cmf f c k l m else f
def lgC (c : Nat) (k l m : Int32) : Nat := if okl k l m ∧ c ≠ 12 then c + 1 else c
theorem lg_no {f : Fl} {c : Nat} {k l m : Int32} (h : ¬ okl k l m) : lgA c k l m = -1000000001 ∧ lgF f c k l m = f ∧ lgC c k l m = c := ⟨if_neg h, if_neg (fun z => h z.1), if_neg (fun z => h z.1)⟩
theorem lg_full {f : Fl} {k l m : Int32} (h : okl k l m) : lgA 12 k l m = -1000000003 ∧ lgF f 12 k l m = f ∧ lgC 12 k l m = 12 := ⟨(if_pos h).trans (if_pos rfl), if_neg (fun z => z.2 rfl), if_neg (fun z => z.2 rfl)⟩
theorem lg_yes {f : Fl} {c : Nat} {k l m : Int32} (h : okl k l m) (hc : c < 12) : lgA c k l m = nI c ∧ lgF f c k l m = cmf f c k l m ∧ lgC c k l m = c + 1 := ⟨(if_pos h).trans (if_neg (by omega)), if_pos ⟨h, by omega⟩, if_pos ⟨h, by omega⟩⟩
theorem c8_log {s : Sn} {c : Nat} {k l m : Int32} (hc : c ≤ 12) (h1 : s.1 (41, 0, 0) 1 = nI c) : Ca (d + 2) MX8_log [vR 40 0 0, vI k, vI l, vI m] (hN s) (Pv fun x t => x = lgA c k l m ∧ t.1 (41, 0, 0) = lgF (s.1 (41, 0, 0)) c k l m ∧ Fr [(41, 0, 0)] s t) := by
  change Wp _ _ 0 [some _, some _, some _, some _] [] _ _
  refine wp_iload_n dX8_log_0 rfl rfl ?_
  refine wp_iconst (v := 0) dX8_log_1 (by decide) rfl ?_
  refine wp_iconst (v := 5) dX8_log_2 (by decide) rfl ?_
  refine wn_callS3d dX8_log_3 rRX8_75 (Nat.le_of_ble_eq_true rfl) rfl rfl rfl (Nat.le_of_ble_eq_true rfl) rfl (c8_in) ?_
  refine wp_if_eq_b (t := 29) dX8_log_6 rfl rfl (fun h6 => ?_) (fun h6 => ?_)
  · refine wp_ldc dX8_log_29 kRX8_83 rfl ?_
    refine wp_iret dX8_log_31 rfl rfl ?_
    obtain ⟨e1, e2, _⟩ := lg_no (f := (s.1 (41, 0, 0))) (c := c) (show ¬ okl k l m from fun z => h6 z.1.1)
    exact ⟨_, _, rfl, rfl, e1.symm, e2.symm, Fr.rf⟩
  · refine wp_iload_n dX8_log_9 rfl rfl ?_
    refine wp_iconst (v := 0) dX8_log_10 (by decide) rfl ?_
    refine wp_bipush (v := 25) dX8_log_11 (by decide) rfl ?_
    refine wn_callS3d dX8_log_13 rRX8_75 (Nat.le_of_ble_eq_true rfl) rfl rfl rfl (Nat.le_of_ble_eq_true rfl) rfl (c8_in) ?_
    refine wp_if_eq_b (t := 29) dX8_log_16 rfl rfl (fun h16 => ?_) (fun h16 => ?_)
    · refine wp_ldc dX8_log_29 kRX8_83 rfl ?_
      refine wp_iret dX8_log_31 rfl rfl ?_
      obtain ⟨e1, e2, _⟩ := lg_no (f := (s.1 (41, 0, 0))) (c := c) (show ¬ okl k l m from fun z => h16 z.1.2)
      exact ⟨_, _, rfl, rfl, e1.symm, e2.symm, Fr.rf⟩
    · refine wp_iload_n dX8_log_19 rfl rfl ?_
      refine wp_iconst (v := 1) dX8_log_20 (by decide) rfl ?_
      refine wp_bipush (v := 50) dX8_log_21 (by decide) rfl ?_
      refine wn_callS3d dX8_log_23 rRX8_75 (Nat.le_of_ble_eq_true rfl) rfl rfl rfl (Nat.le_of_ble_eq_true rfl) rfl (c8_in) ?_
      refine wp_if_ne_b (t := 32) dX8_log_26 rfl rfl (fun h26 => ?_) (fun h26 => ?_)
      · refine wp_aload_n dX8_log_32 rfl rfl ?_
        refine wn_getR dX8_log_33 fRX8_9 o40 rfl rfl rfl ?_
        refine wp_iconst (v := 1) dX8_log_36 (by decide) rfl ?_
        refine wn_iald (j := 1) dX8_log_37 (o41 0 rfl) rfl ⟨by decide, by decide⟩ (Nat.le_of_ble_eq_true rfl) rfl ?_
        refine wp_bipush (v := 12) dX8_log_38 (by decide) rfl ?_
        refine wp_icmp_ne (t := 48) dX8_log_40 rfl rfl (fun h40 => ?_) (fun h40 => ?_)
        · have hc12 : c < 12 := by
            rw [h1] at h40
            have : c ≠ 12 := fun z => h40 (by rw [z]; rfl)
            omega
          refine wp_aload_n dX8_log_48 rfl rfl ?_
          refine wp_iload_n dX8_log_49 rfl rfl ?_
          refine wp_iload_n dX8_log_50 rfl rfl ?_
          refine wp_iload_n dX8_log_51 rfl rfl ?_
          refine wn_callV3i dX8_log_52 rRX8_85 (rcv_of o40 rfl) (Nat.le_of_ble_eq_true rfl) rfl rfl rfl (Nat.le_of_ble_eq_true rfl) rfl (c8_comes hc12 h1) (fun x52 s52 hq52 => ?_)
          obtain ⟨e52, ef52, hF52⟩ := hq52
          refine wp_iret dX8_log_55 rfl rfl ?_
          obtain ⟨e1, e2, _⟩ := lg_yes (f := (s.1 (41, 0, 0))) (show okl k l m from ⟨⟨h6, h16⟩, h26⟩) hc12
          exact ⟨_, _, rfl, rfl, e52.trans e1.symm, ef52.trans e2.symm, hF52⟩
        · refine wp_ldc dX8_log_43 kRX8_84 rfl ?_
          refine wp_goto (t := 55) dX8_log_45 rfl ?_
          refine wp_iret dX8_log_55 rfl rfl ?_
          have hc12 : c = 12 := by rw [h1] at h40; exact (nI_eq (b := 12) (by omega) (by omega)).mp h40
          subst hc12
          obtain ⟨e1, e2, _⟩ := lg_full (f := (s.1 (41, 0, 0))) (show okl k l m from ⟨⟨h6, h16⟩, h26⟩)
          exact ⟨_, _, rfl, rfl, e1.symm, e2.symm, Fr.rf⟩
      · refine wp_ldc dX8_log_29 kRX8_83 rfl ?_
        refine wp_iret dX8_log_31 rfl rfl ?_
        obtain ⟨e1, e2, _⟩ := lg_no (f := (s.1 (41, 0, 0))) (c := c) (show ¬ okl k l m from fun z => h26 z.2)
        exact ⟨_, _, rfl, rfl, e1.symm, e2.symm, Fr.rf⟩
theorem c7_log {s : Sn} {f : Fl} {c : Nat} {k l m : Int32} (hV : RV s 0 f c) : Ca (d + 2) MX7_log [vR 10 0 0, vI k, vI l, vI m] (hN s) (Pv fun x t => x = lgA c k l m ∧ RV t 0 (lgF f c k l m) (lgC c k l m) ∧ FQ (XR 0) s t) := by
  change Wp _ _ 0 [some _, some _, some _, some _] [] _ _
  refine wp_iload_n dX7_log_0 rfl rfl ?_
  refine wn_callS1d dX7_log_1 rRX7_58 (Nat.le_of_ble_eq_true rfl) rfl (Nat.le_of_ble_eq_true rfl) rfl (c7_isKind) ?_
  refine wp_if_eq_b (t := 21) dX7_log_4 rfl rfl (fun h4 => ?_) (fun h4 => ?_)
  · refine wp_ldc dX7_log_21 kRX7_68 rfl ?_
    refine wp_iret dX7_log_23 rfl rfl ?_
    obtain ⟨e1, e2, e3⟩ := lg_no (f := f) (c := c) (show ¬ okl k l m from fun z => h4 z.1.1)
    exact ⟨_, _, rfl, rfl, e1.symm, by rw [e2, e3]; exact hV, FQ.rf⟩
  · refine wp_iload_n dX7_log_7 rfl rfl ?_
    refine wn_callS1d dX7_log_8 rRX7_62 (Nat.le_of_ble_eq_true rfl) rfl (Nat.le_of_ble_eq_true rfl) rfl (c7_isLetter) ?_
    refine wp_if_eq_b (t := 21) dX7_log_11 rfl rfl (fun h11 => ?_) (fun h11 => ?_)
    · refine wp_ldc dX7_log_21 kRX7_68 rfl ?_
      refine wp_iret dX7_log_23 rfl rfl ?_
      obtain ⟨e1, e2, e3⟩ := lg_no (f := f) (c := c) (show ¬ okl k l m from fun z => h11 z.1.2)
      exact ⟨_, _, rfl, rfl, e1.symm, by rw [e2, e3]; exact hV, FQ.rf⟩
    · refine wp_iload_n dX7_log_14 rfl rfl ?_
      refine wn_callS1d dX7_log_15 rRX7_65 (Nat.le_of_ble_eq_true rfl) rfl (Nat.le_of_ble_eq_true rfl) rfl (c7_isMass) ?_
      refine wp_if_ne_b (t := 24) dX7_log_18 rfl rfl (fun h18 => ?_) (fun h18 => ?_)
      · have hok : okl k l m := ⟨⟨h4, h11⟩, h18⟩
        by_cases hc12 : c = 12
        · subst hc12
          obtain ⟨e1, e2, e3⟩ := lg_full (f := f) hok
          refine wp_aload_n dX7_log_24 rfl rfl ?_
          refine wn_getR dX7_log_25 fRX7_10 o10 rfl rfl rfl ?_
          refine wp_iload_n dX7_log_28 rfl rfl ?_
          refine wp_iload_n dX7_log_29 rfl rfl ?_
          refine wp_iload_n dX7_log_30 rfl rfl ?_
          refine wn_callV3d dX7_log_31 rRX7_69 (rcv_of (o11 (by decide)) rfl) (Nat.le_of_ble_eq_true rfl) rfl rfl rfl (Nat.le_of_ble_eq_true rfl) rfl (c3_addLogNo (by decide) hV) ?_
          refine wp_if_eq (t := 49) dX7_log_34 rfl rfl (fun h34 => ?_) (fun h34 => absurd rfl h34)
          refine wp_ldc dX7_log_49 kRX7_76 rfl ?_
          refine wp_iret dX7_log_51 rfl rfl ?_
          exact ⟨_, _, rfl, rfl, e1.symm, by rw [e2, e3]; exact hV, FQ.rf⟩
        · have hc : c < 12 := by have := hV.2.2.2; omega
          obtain ⟨e1, e2, e3⟩ := lg_yes (f := f) hok hc
          refine wp_aload_n dX7_log_24 rfl rfl ?_
          refine wn_getR dX7_log_25 fRX7_10 o10 rfl rfl rfl ?_
          refine wp_iload_n dX7_log_28 rfl rfl ?_
          refine wp_iload_n dX7_log_29 rfl rfl ?_
          refine wp_iload_n dX7_log_30 rfl rfl ?_
          refine wn_callV3d dX7_log_31 rRX7_69 (rcv_of (o11 (by decide)) rfl) (Nat.le_of_ble_eq_true rfl) rfl rfl rfl (Nat.le_of_ble_eq_true rfl) rfl (c3_addLog (by decide) hc hV) ?_
          refine wp_if_eq (t := 49) dX7_log_34 rfl rfl (fun h34 => absurd h34 (by decide)) (fun h34 => ?_)
          refine wp_aload_n dX7_log_37 rfl rfl ?_
          refine wn_getR dX7_log_38 fRX7_10 o10 rfl rfl rfl ?_
          refine wn_getI dX7_log_41 fRX7_73 (o11 (by decide)) rfl rfl ?_
          rw [show (cmS s 0 c k l m).1 (11, 0, 0) 6 = nI (c + 1) from sI_eq]
          refine wp_iconst (v := 1) dX7_log_44 (by decide) rfl ?_
          refine wp_isub dX7_log_45 rfl ?_
          rw [nI_pred]
          refine wp_goto (t := 51) dX7_log_46 rfl ?_
          refine wp_iret dX7_log_51 rfl rfl ?_
          exact ⟨_, _, rfl, rfl, e1.symm, by rw [e2, e3]; exact cmS_RV hc hV, cmS_FQ⟩
      · refine wp_ldc dX7_log_21 kRX7_68 rfl ?_
        refine wp_iret dX7_log_23 rfl rfl ?_
        obtain ⟨e1, e2, e3⟩ := lg_no (f := f) (c := c) (show ¬ okl k l m from fun z => h18 z.2)
        exact ⟨_, _, rfl, rfl, e1.symm, by rw [e2, e3]; exact hV, FQ.rf⟩
theorem c8_seed {s : Sn} {x : Int32} : Ca (d + 1) MX8_seed [vR 40 0 0, vI x] (hN s) (Pd (s.1 (41, 0, 0) 0) (sI s (41, 0, 0) 0 x)) := by
  change Wp _ _ 0 [some _, some _] [] _ _
  refine wp_aload_n dX8_seed_0 rfl rfl ?_
  refine wp_iconst (v := 0) dX8_seed_1 (by decide) rfl ?_
  refine wp_iload_n dX8_seed_2 rfl rfl ?_
  refine wn_callV2d dX8_seed_3 rRX8_121 (rcv_of o40 rfl) (Nat.le_of_ble_eq_true rfl) rfl rfl (Nat.le_of_ble_eq_true rfl) rfl (c8_becomes (k := 0) (by decide)) ?_
  refine wp_iret dX8_seed_6 rfl rfl ?_
  exact Pd.mk
theorem c7_seed {s : Sn} {f : Fl} {c : Nat} {x : Int32} (hV : RV s 0 f c) : Ca d MX7_seed [vR 10 0 0, vI x] (hN s) (Pd (f 0) (sI s (11, 0, 0) 15 x)) := by
  change Wp _ _ 0 [some _, some _, none] [] _ _
  refine wp_aload_n dX7_seed_0 rfl rfl ?_
  refine wn_getR dX7_seed_1 fRX7_10 o10 rfl rfl rfl ?_
  refine wn_getI dX7_seed_4 fRX7_158 (o11 (by decide)) rfl rfl ?_
  rw [show s.1 (11, 0, 0) 15 = f 0 from hV.1.sc 0 (by decide)]
  refine wp_istore_n (l' := [_, _, some _]) dX7_seed_7 rfl rfl ?_
  refine wp_aload_n dX7_seed_8 rfl rfl ?_
  refine wn_getR dX7_seed_9 fRX7_10 o10 rfl rfl rfl ?_
  refine wp_iload_n dX7_seed_12 rfl rfl ?_
  refine wn_putI dX7_seed_13 fRX7_158 (o11 (by decide)) rfl rfl rfl ?_
  refine wp_iload_n dX7_seed_16 rfl rfl ?_
  refine wp_iret dX7_seed_17 rfl rfl ?_
  exact Pd.mk
end
