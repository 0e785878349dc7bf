/-! THE PURE PART, 86: a law comes to the river; the class's text -/
section
variable {d : Nat}
/-- the river with one law more -/
def adL (s : Sn) (n c8 : Nat) : Sn := sI (sW s 0 c8 (some n)) (11, 0, 0) 8 (nI (c8 + 1))
theorem c3_addLaw {s : Sn} {n c8 : Nat} (hn : n < s.2.2.2.1) (hc : c8 < 14) (h8 : s.1 (11, 0, 0) 8 = nI c8) : Ca d MX3_addLaw [vR 11 0 0, vR 34 n 0] (hN s) (Pv fun y t => y = 1 ∧ t = adL s n c8) := by
  change Wp _ _ 0 [some _, some _] [] _ _
  refine wp_aload_n dX3_addLaw_0 rfl rfl ?_
  refine wn_getI dX3_addLaw_1 fRX3_43 (o11 (by decide)) rfl rfl ?_
  rw [h8]
  refine wp_bipush (v := 14) dX3_addLaw_4 (by decide) rfl ?_
  refine wp_icmp_lt (t := 11) dX3_addLaw_6 rfl rfl (fun h6 => ?_) (fun h6 => absurd ((nI_ltI (b := 14) (by omega) (by decide)).mpr hc) h6)
  refine wp_aload_n dX3_addLaw_11 rfl rfl ?_
  refine wn_getR dX3_addLaw_12 fRX3_32 (o11 (by decide)) rfl rfl rfl ?_
  refine wp_aload_n dX3_addLaw_15 rfl rfl ?_
  refine wn_getI dX3_addLaw_16 fRX3_43 (o11 (by decide)) rfl rfl ?_
  rw [h8]
  refine wp_aload_n dX3_addLaw_19 rfl rfl ?_
  refine wn_aast18 (o := some n) dX3_addLaw_20 (by decide) (nIx rfl (by omega)) hc (fun m hm => by cases hm; exact hn) rfl ?_
  refine wp_aload_n dX3_addLaw_21 rfl rfl ?_
  refine wp_dup dX3_addLaw_22 rfl rfl ?_
  refine wn_getI dX3_addLaw_23 fRX3_43 (o11 (by decide)) rfl rfl ?_
  rw [show (sW s 0 c8 (some n)).1 (11, 0, 0) 8 = nI c8 from h8]
  refine wp_iconst (v := 1) dX3_addLaw_26 (by decide) rfl ?_
  refine wp_iadd dX3_addLaw_27 rfl ?_
  rw [nI_1]
  refine wn_putI dX3_addLaw_28 fRX3_43 (o11 (by decide)) rfl rfl rfl ?_
  refine wp_iconst (v := 1) dX3_addLaw_31 (by decide) rfl ?_
  refine wp_iret dX3_addLaw_32 rfl (by decide) ?_
  exact ⟨_, _, rfl, rfl, rfl, rfl⟩
theorem c3_addLawN {s : Sn} {r : Option Rf} (h8 : s.1 (11, 0, 0) 8 = nI 14) : Ca d MX3_addLaw [vR 11 0 0, .inr (.inr r)] (hN s) (Pd 0 s) := by
  change Wp _ _ 0 [some _, some _] [] _ _
  refine wp_aload_n dX3_addLaw_0 rfl rfl ?_
  refine wn_getI dX3_addLaw_1 fRX3_43 (o11 (by decide)) rfl rfl ?_
  rw [h8]
  refine wp_bipush (v := 14) dX3_addLaw_4 (by decide) rfl ?_
  refine wp_icmp_lt (t := 11) dX3_addLaw_6 rfl rfl (fun h6 => absurd h6 (by decide)) (fun h6 => ?_)
  refine wp_iconst (v := 0) dX3_addLaw_9 (by decide) rfl ?_
  refine wp_iret dX3_addLaw_10 rfl (by decide) ?_
  exact Pd.mk
theorem mkL_o {s : Sn} {key p : Int32} {c : Nat} {r : Rf} (h34 : r.1 ≠ 34) (h35 : r.1 ≠ 35) (h36 : r.1 ≠ 36) : (mkL s key p c).1 r = s.1 r := by
  funext j
  show (if r = (34, s.2.2.2.1, 0) then (if j = 0 then key else if j = 1 then p else 0) else if r = (35, s.2.2.2.1, 0) then (if j < c then s.1 (23, 0, 0) j else 0) else if r = (36, s.2.2.2.1, 0) then 0 else s.1 r j) = _
  rw [if_neg (fun z => h34 (congrArg Prod.fst z)), if_neg (fun z => h35 (congrArg Prod.fst z)), if_neg (fun z => h36 (congrArg Prod.fst z))]
/-- the states of the class's text -/
def CT (s : Sn) (R : Bool × Nat × Nat × PZ) (c8 : Nat) (y : Int32) (t : Sn) : Prop := y = ttX R c8 ∧ (R.1 = false → ∃ t0, Fr XC3 s t0 ∧ t = sI t0 (21, 0, 0) 1 0) ∧ (R.1 = true → ∃ s2, LD s (R.1, R.2.1, R.2.2.2) R.2.2.1 s2 ∧ t = if c8 = 14 then sI (mkL s2 (nI R.2.2.1) (nI (za R.2.2.2)) (zc R.2.2.2)) (21, 0, 0) 1 0 else adL (sI (mkL s2 (nI R.2.2.1) (nI (za R.2.2.2)) (zc R.2.2.2)) (21, 0, 0) 1 0) s2.2.2.2.1 c8)
theorem c7_textS {s : Sn} {tp cf wf : Fl} {te : Nat → Bool} {n c8 : Nat} (hn : n ≤ 96) (hT : TP s tp n) (hQ : TQ tp) (hX : TT s) (hc8 : c8 ≤ 14) (h8 : s.1 (11, 0, 0) 8 = nI c8) : Ca (d + 8) MX7_text [vR 10 0 0] (hN s) (Pv fun y t => CT s (txR tp n cf wf te) c8 y t) := by
  change Wp _ _ 0 [some _, none] [] _ _
  refine wp_aload_n dX7_text_0 rfl rfl ?_
  refine wn_getR dX7_text_1 fRX7_28 o10 rfl rfl rfl ?_
  refine wn_callV0r dX7_text_4 rRX7_233 (rcv_of o20 rfl) (Nat.le_of_ble_eq_true rfl)  (Nat.le_of_ble_eq_true rfl) rfl (c2_readLaw (cf := cf) (wf := wf) (te := te) hn hT hQ hX) (fun x4 s4 hq4 => ?_)
  cases hR : (txR tp n cf wf te).1
  · obtain ⟨er, h3, hF⟩ := hq4.1 hR
    subst er
    refine wp_astore_n (l' := [_, some _]) dX7_text_7 rfl rfl ?_
    refine wp_aload_n dX7_text_8 rfl rfl ?_
    refine wn_getR dX7_text_9 fRX7_28 o10 rfl rfl rfl ?_
    refine wn_getR dX7_text_12 fRX7_221 o20 rfl rfl rfl ?_
    refine wp_iconst (v := 0) dX7_text_15 (by decide) rfl ?_
    refine wn_putI dX7_text_16 fRX7_225 o21 rfl rfl rfl ?_
    refine wp_aload_n dX7_text_19 rfl rfl ?_
    refine wp_ifnonnullN dX7_text_20 rfl ?_
    refine wp_bipush (v := (-100)) dX7_text_23 (by decide) rfl ?_
    refine wp_aload_n dX7_text_25 rfl rfl ?_
    refine wn_getR dX7_text_26 fRX7_28 o10 rfl rfl rfl ?_
    refine wn_getI dX7_text_29 fRX7_237 o20 rfl rfl ?_
    rw [sI_nr (by decide), h3]
    refine wp_isub dX7_text_32 rfl ?_
    refine wp_iret dX7_text_33 rfl rfl ?_
    refine ⟨_, _, rfl, rfl, (if_neg (by rw [hR]; decide)).symm, fun _ => ⟨_, hF, rfl⟩, fun q => absurd (hR.symm.trans q) (by decide)⟩
  · obtain ⟨s2, hD, er, es⟩ := hq4.2 hR
    subst er
    rw [es]
    have hlt : s2.2.2.2.1 < (sI (mkL s2 (nI (txR tp n cf wf te).2.2.1) (nI (za (txR tp n cf wf te).2.2.2)) (zc (txR tp n cf wf te).2.2.2)) (21, 0, 0) 1 0).2.2.2.1 := by show s2.2.2.2.1 < s2.2.2.2.1 + 1; omega
    have e8m : (sI (mkL s2 (nI (txR tp n cf wf te).2.2.1) (nI (za (txR tp n cf wf te).2.2.2)) (zc (txR tp n cf wf te).2.2.2)) (21, 0, 0) 1 0).1 (11, 0, 0) 8 = nI c8 := by
      rw [sI_nr (by decide), mkL_o (by decide) (by decide) (by decide), hD.2.2.2.1 _ (by decide)]
      exact h8
    by_cases h14 : c8 = 14
    · refine wp_astore_n (l' := [_, some _]) dX7_text_7 rfl rfl ?_
      refine wp_aload_n dX7_text_8 rfl rfl ?_
      refine wn_getR dX7_text_9 fRX7_28 o10 rfl rfl rfl ?_
      refine wn_getR dX7_text_12 fRX7_221 o20 rfl rfl rfl ?_
      refine wp_iconst (v := 0) dX7_text_15 (by decide) rfl ?_
      refine wn_putI dX7_text_16 fRX7_225 o21 rfl rfl rfl ?_
      refine wp_aload_n dX7_text_19 rfl rfl ?_
      refine wp_ifnonnullS (t := 34) dX7_text_20 (Nat.le_of_ble_eq_true rfl) rfl ?_
      refine wp_aload_n dX7_text_34 rfl rfl ?_
      refine wn_getR dX7_text_35 fRX7_10 o10 rfl rfl rfl ?_
      refine wp_aload_n dX7_text_38 rfl rfl ?_
      refine wn_callV1d dX7_text_39 rRX7_240 (rcv_of (o11 (by decide)) rfl) (Nat.le_of_ble_eq_true rfl) rfl (Nat.le_of_ble_eq_true rfl) rfl (c3_addLawN (by rw [e8m, h14])) ?_
      refine wp_if_eq (t := 57) dX7_text_42 rfl rfl (fun h42 => ?_) (fun h42 => absurd rfl h42)
      refine wp_ldc dX7_text_57 kRX7_76 rfl ?_
      refine wp_iret dX7_text_59 rfl rfl ?_
      refine ⟨_, _, rfl, rfl, ?_, fun q => absurd (hR.symm.trans q) (by decide), fun _ => ⟨s2, hD, (if_pos h14).symm⟩⟩
      rw [ttX, if_pos hR, if_pos h14]
    · refine wp_astore_n (l' := [_, some _]) dX7_text_7 rfl rfl ?_
      refine wp_aload_n dX7_text_8 rfl rfl ?_
      refine wn_getR dX7_text_9 fRX7_28 o10 rfl rfl rfl ?_
      refine wn_getR dX7_text_12 fRX7_221 o20 rfl rfl rfl ?_
      refine wp_iconst (v := 0) dX7_text_15 (by decide) rfl ?_
      refine wn_putI dX7_text_16 fRX7_225 o21 rfl rfl rfl ?_
      refine wp_aload_n dX7_text_19 rfl rfl ?_
      refine wp_ifnonnullS (t := 34) dX7_text_20 (Nat.le_of_ble_eq_true rfl) rfl ?_
      refine wp_aload_n dX7_text_34 rfl rfl ?_
      refine wn_getR dX7_text_35 fRX7_10 o10 rfl rfl rfl ?_
      refine wp_aload_n dX7_text_38 rfl rfl ?_
      refine wn_callV1i dX7_text_39 rRX7_240 (rcv_of (o11 (by decide)) rfl) (Nat.le_of_ble_eq_true rfl) rfl (Nat.le_of_ble_eq_true rfl) rfl (c3_addLaw (n := s2.2.2.2.1) (c8 := c8) hlt (by omega) e8m) (fun x39 s39 hq39 => ?_)
      obtain ⟨e39, e39s⟩ := hq39
      subst e39
      rw [e39s]
      refine wp_if_eq (t := 57) dX7_text_42 rfl rfl (fun h42 => absurd h42 (by decide)) (fun h42 => ?_)
      refine wp_aload_n dX7_text_45 rfl rfl ?_
      refine wn_getR dX7_text_46 fRX7_10 o10 rfl rfl rfl ?_
      refine wn_getI dX7_text_49 fRX7_244 (o11 (by decide)) rfl rfl ?_
      rw [show (adL (sI (mkL s2 (nI (txR tp n cf wf te).2.2.1) (nI (za (txR tp n cf wf te).2.2.2)) (zc (txR tp n cf wf te).2.2.2)) (21, 0, 0) 1 0) s2.2.2.2.1 c8).1 (11, 0, 0) 8 = nI (c8 + 1) from sI_eq]
      refine wp_iconst (v := 1) dX7_text_52 (by decide) rfl ?_
      refine wp_isub dX7_text_53 rfl ?_
      rw [nI_pred]
      refine wp_goto (t := 59) dX7_text_54 rfl ?_
      refine wp_iret dX7_text_59 rfl rfl ?_
      refine ⟨_, _, rfl, rfl, ?_, fun q => absurd (hR.symm.trans q) (by decide), fun _ => ⟨s2, hD, (if_neg h14).symm⟩⟩
      rw [ttX, if_pos hR, if_neg h14]
end
