/-! THE PURE PART, 36: the public methods weeks, deal -/
section
variable {d i : Nat}
theorem min_g {n a b : Nat} (h : b ≤ a) (ha : a < 2 ^ 31) (hn : n < 2 ^ 31) : (if nI a - nI b < nI n then nI a - nI b else nI n) = nI (min n (a - b)) := by
  rw [nI_subn h]
  by_cases e : nI (a - b) < nI n
  · have := (nI_ltI (by omega) hn).mp e
    rw [if_pos e, show min n (a - b) = a - b by omega]
  · have := mt (nI_ltI (by omega) hn).mpr e
    rw [if_neg e, show min n (a - b) = n by omega]
theorem wth_g {n a b : Nat} (h : b ≤ a) (ha : a < 2 ^ 31) (hn : n < 2 ^ 31) : wth (nI a - nI b) 0 (nI n) = nI (min n (a - b)) := by
  unfold wth
  rw [nI_subn h, if_neg (nI_pos (by omega))]
  by_cases e : nI n < nI (a - b)
  · have := (nI_ltI hn (by omega)).mp e
    rw [if_pos e, show min n (a - b) = n by omega]
  · have := mt (nI_ltI hn (by omega)).mpr e
    rw [if_neg e, show min n (a - b) = a - b by omega]
theorem one_nat {x : Int32} {b : Nat} (hb : b < 2 ^ 31) (h : 1 ≤ x ∧ x ≤ nI b) : ∃ n, 1 ≤ n ∧ n ≤ b ∧ x = nI n := by
  have h0 : ¬ x < 0 := fun z => absurd (Int32.lt_of_le_of_lt h.1 z) (by decide)
  obtain ⟨k, hk, rfl⟩ := nI_of h0
  exact ⟨k, (nI_leI (a := 1) (by omega) hk).mp h.1, (nI_leI hk hb).mp h.2, rfl⟩
def wkF (f : Fl) (wk : Nat) (x : Int32) : Fl := if 1 ≤ x ∧ x ≤ 60 then weks (min x.toNatClampNeg (9999 - wk)) f else f
def wkA (f : Fl) (wk : Nat) (x : Int32) : Int32 := if 1 ≤ x ∧ x ≤ 60 then nI (mny (wkF f wk x) 12) - nI (mny f 12) else -1000000001
theorem wk_no {f : Fl} {wk : Nat} {x : Int32} (h : ¬ (1 ≤ x ∧ x ≤ 60)) : wkA f wk x = -1000000001 ∧ wkF f wk x = f := ⟨if_neg h, if_neg h⟩
theorem wk_yes {f : Fl} {wk n : Nat} (h : 1 ≤ nI n ∧ nI n ≤ 60) (hn : n ≤ 60) : wkA f wk (nI n) = nI (mny (weks (min n (9999 - wk)) f) 12) - nI (mny f 12) ∧ wkF f wk (nI n) = weks (min n (9999 - wk)) f := by
  have e : wkF f wk (nI n) = weks (min n (9999 - wk)) f := by unfold wkF; rw [if_pos h, nI_clamp (by omega)]
  refine ⟨?_, e⟩
  unfold wkA
  rw [if_pos h, e]
theorem c8_weeks {s : Sn} {c c8 wk : Nat} {x : Int32} (hW : Wq (s.1 (41, 0, 0)) c c8) (h2 : s.1 (41, 0, 0) 2 = nI wk) (hwk : wk ≤ 9999) : Ca (d + 6) MX8_weeks [vR 40 0 0, vI x] (hN s) (Pv fun y t => y = wkA (s.1 (41, 0, 0)) wk x ∧ t.1 (41, 0, 0) = wkF (s.1 (41, 0, 0)) wk x ∧ Fr [(41, 0, 0), (41, 10, 0), (41, 11, 0)] s t) := by
  change Wp _ _ 0 [some _, some _, none] [] _ _
  refine wp_iload_n dX8_weeks_0 rfl rfl ?_
  refine wp_iconst (v := 1) dX8_weeks_1 (by decide) rfl ?_
  refine wp_bipush (v := 60) dX8_weeks_2 (by decide) rfl ?_
  refine wn_callS3d dX8_weeks_4 rRX8_75 (Nat.le_of_ble_eq_true rfl) rfl rfl rfl (Nat.le_of_ble_eq_true rfl) rfl (c8_in) ?_
  refine wp_if_ne_b (t := 13) dX8_weeks_7 rfl rfl (fun h7 => ?_) (fun h7 => ?_)
  · obtain ⟨n, hn1, hn60, rfl⟩ := one_nat (b := 60) (by omega) h7
    have hm : min n (9999 - wk) < 1000 := by omega
    refine wp_aload_n dX8_weeks_13 rfl rfl ?_
    refine wp_bipush (v := 12) dX8_weeks_14 (by decide) rfl ?_
    refine wn_callV1d dX8_weeks_16 rRX8_133 (rcv_of o40 rfl) (Nat.le_of_ble_eq_true rfl) rfl (Nat.le_of_ble_eq_true rfl) rfl (c8_manyAt hW.2.1 hW.1) ?_
    refine wp_istore_n (l' := [_, _, some _]) dX8_weeks_19 rfl rfl ?_
    refine wp_aload_n dX8_weeks_20 rfl rfl ?_
    refine wp_sipush (v := 9999) dX8_weeks_21 (by decide) rfl ?_
    refine wp_aload_n dX8_weeks_24 rfl rfl ?_
    refine wn_getR dX8_weeks_25 fRX8_9 o40 rfl rfl rfl ?_
    refine wp_iconst (v := 2) dX8_weeks_28 (by decide) rfl ?_
    refine wn_iald (j := 2) dX8_weeks_29 (o41 0 rfl) rfl ⟨by decide, by decide⟩ (Nat.le_of_ble_eq_true rfl) rfl ?_
    rw [h2, show (9999 : Int32) = nI 9999 from rfl]
    refine wp_isub dX8_weeks_30 rfl ?_
    refine wp_iconst (v := 0) dX8_weeks_31 (by decide) rfl ?_
    refine wp_iload_n dX8_weeks_32 rfl rfl ?_
    refine wn_callS3d dX8_weeks_33 rRX8_100 (Nat.le_of_ble_eq_true rfl) rfl rfl rfl (Nat.le_of_ble_eq_true rfl) rfl (c8_within) ?_
    rw [wth_g hwk (by omega) (by omega)]
    refine wn_callV1n dX8_weeks_36 rRX8_146 (rcv_of o40 rfl) (Nat.le_of_ble_eq_true rfl) rfl (Nat.le_of_ble_eq_true rfl) rfl (c8_goesOn hm hW) (fun s36 hq36 => ?_)
    obtain ⟨e36, hF36⟩ := hq36
    have hW36 := Wq.weks (min n (9999 - wk)) _ hW
    refine wp_aload_n dX8_weeks_39 rfl rfl ?_
    refine wp_bipush (v := 12) dX8_weeks_40 (by decide) rfl ?_
    refine wn_callV1d dX8_weeks_42 rRX8_133 (rcv_of o40 rfl) (Nat.le_of_ble_eq_true rfl) rfl (Nat.le_of_ble_eq_true rfl) rfl (c8_manyAt (c := c) hW.2.1 (by rw [e36]; exact hW36.1)) ?_
    rw [e36]
    refine wp_iload_n dX8_weeks_45 rfl rfl ?_
    refine wp_isub dX8_weeks_46 rfl ?_
    refine wp_iret dX8_weeks_47 rfl rfl ?_
    obtain ⟨e1, e2⟩ := wk_yes (f := (s.1 (41, 0, 0))) (wk := wk) h7 hn60
    refine ⟨_, _, rfl, rfl, e1.symm, ?_, hF36⟩
    rw [e2]; exact e36
  · refine wp_ldc dX8_weeks_10 kRX8_83 rfl ?_
    refine wp_iret dX8_weeks_12 rfl rfl ?_
    obtain ⟨e1, e2⟩ := wk_no (f := (s.1 (41, 0, 0))) (wk := wk) h7
    refine ⟨_, _, rfl, rfl, e1.symm, ?_, Fr.rf⟩
    rw [e2]
theorem c7_weeks {s : Sn} {f : Fl} {c c8 wk : Nat} {x : Int32} (hV : RV s 0 f c) (hW : Wr f c c8) (hL : LwR s 0 f c8) (h2 : f 2 = nI wk) (hwk : wk ≤ 9999) : Ca (d + 6) MX7_weeks [vR 10 0 0, vI x] (hN s) (Pv fun y t => y = wkA f wk x ∧ (RV t 0 (wkF f wk x) c ∧ LwR t 0 (wkF f wk x) c8) ∧ FQ (XR 0) s t) := by
  change Wp _ _ 0 [some _, some _, none] [] _ _
  refine wp_iload_n dX7_weeks_0 rfl rfl ?_
  refine wp_iconst (v := 1) dX7_weeks_1 (by decide) rfl ?_
  refine wp_bipush (v := 60) dX7_weeks_2 (by decide) rfl ?_
  refine wn_callS3d dX7_weeks_4 rRX7_128 (Nat.le_of_ble_eq_true rfl) rfl rfl rfl (Nat.le_of_ble_eq_true rfl) rfl (c7_within) ?_
  refine wp_if_ne_b (t := 13) dX7_weeks_7 rfl rfl (fun h7 => ?_) (fun h7 => ?_)
  · obtain ⟨n, hn1, hn60, rfl⟩ := one_nat (b := 60) (by omega) h7
    have hm : min n (9999 - wk) < 1000 := by omega
    have hw : s.1 (11, 0, 0) 14 = nI wk := (hV.1.sc 2 (by decide)).trans h2
    refine wp_aload_n dX7_weeks_13 rfl rfl ?_
    refine wn_getR dX7_weeks_14 fRX7_10 o10 rfl rfl rfl ?_
    refine wn_getI dX7_weeks_17 fRX7_161 (o11 (by decide)) rfl rfl ?_
    rw [hV.2.1]
    refine wp_istore_n (l' := [_, _, some _]) dX7_weeks_20 rfl rfl ?_
    refine wp_aload_n dX7_weeks_21 rfl rfl ?_
    refine wn_getR dX7_weeks_22 fRX7_10 o10 rfl rfl rfl ?_
    refine wp_iload_n dX7_weeks_25 rfl rfl ?_
    refine wp_sipush (v := 9999) dX7_weeks_26 (by decide) rfl ?_
    refine wp_aload_n dX7_weeks_29 rfl rfl ?_
    refine wn_getR dX7_weeks_30 fRX7_10 o10 rfl rfl rfl ?_
    refine wn_getI dX7_weeks_33 fRX7_164 (o11 (by decide)) rfl rfl ?_
    rw [hw, show (9999 : Int32) = nI 9999 from rfl]
    refine wp_isub dX7_weeks_36 rfl ?_
    refine wp_min dX7_weeks_37 rRX7_149 (by omega) (Nat.le_of_ble_eq_true rfl) rfl ?_
    rw [min_g hwk (by omega) (by omega)]
    refine wn_callV1n dX7_weeks_40 rRX7_167 (rcv_of (o11 (by decide)) rfl) (Nat.le_of_ble_eq_true rfl) rfl (Nat.le_of_ble_eq_true rfl) rfl (c3_passWeeks (by decide) hm hV hW hL) (fun s40 hq40 => ?_)
    obtain ⟨⟨hV40, hL40⟩, hF40⟩ := hq40
    refine wp_aload_n dX7_weeks_43 rfl rfl ?_
    refine wn_getR dX7_weeks_44 fRX7_10 o10 rfl rfl rfl ?_
    refine wn_getI dX7_weeks_47 fRX7_161 (o11 (by decide)) rfl rfl ?_
    rw [hV40.2.1]
    refine wp_iload_n dX7_weeks_50 rfl rfl ?_
    refine wp_isub dX7_weeks_51 rfl ?_
    refine wp_iret dX7_weeks_52 rfl rfl ?_
    obtain ⟨e1, e2⟩ := wk_yes (f := f) (wk := wk) h7 hn60
    refine ⟨_, _, rfl, rfl, e1.symm, ?_, hF40⟩
    rw [e2]; exact ⟨hV40, hL40⟩
  · refine wp_ldc dX7_weeks_10 kRX7_68 rfl ?_
    refine wp_iret dX7_weeks_12 rfl rfl ?_
    obtain ⟨e1, e2⟩ := wk_no (f := f) (wk := wk) h7
    refine ⟨_, _, rfl, rfl, e1.symm, ?_, FQ.rf⟩
    rw [e2]; exact ⟨hV, hL⟩
def dlN (c : Nat) (x : Int32) : Nat := min x.toNatClampNeg (12 - c)
def dlF (f : Fl) (c : Nat) (x : Int32) : Fl := if 1 ≤ x ∧ x ≤ 12 then dls (dlN c x) c f else f
def dlC (c : Nat) (x : Int32) : Nat := if 1 ≤ x ∧ x ≤ 12 then c + dlN c x else c
def dlA (c : Nat) (x : Int32) : Int32 := if 1 ≤ x ∧ x ≤ 12 then nI (dlN c x) else -1000000001
theorem dl_no {f : Fl} {c : Nat} {x : Int32} (h : ¬ (1 ≤ x ∧ x ≤ 12)) : dlA c x = -1000000001 ∧ dlF f c x = f ∧ dlC c x = c := ⟨if_neg h, if_neg h, if_neg h⟩
theorem dl_yes {f : Fl} {c n : Nat} (h : 1 ≤ nI n ∧ nI n ≤ 12) (hn : n ≤ 12) : dlA c (nI n) = nI (min n (12 - c)) ∧ dlF f c (nI n) = dls (min n (12 - c)) c f ∧ dlC c (nI n) = c + min n (12 - c) := by
  have e : dlN c (nI n) = min n (12 - c) := by unfold dlN; rw [nI_clamp (by omega)]
  unfold dlA dlF dlC
  rw [if_pos h, if_pos h, if_pos h, e]
  exact ⟨rfl, rfl, rfl⟩
theorem c8_deal {s : Sn} {c : Nat} {x : Int32} (hc : c ≤ 12) (h1 : s.1 (41, 0, 0) 1 = nI c) : Ca (d + 2) MX8_deal [vR 40 0 0, vI x] (hN s) (Pv fun y t => y = dlA c x ∧ t.1 (41, 0, 0) = dlF (s.1 (41, 0, 0)) c x ∧ Fr [(41, 0, 0)] s t) := by
  change Wp _ _ 0 [some _, some _, none, none, none, none] [] _ _
  refine wp_iload_n dX8_deal_0 rfl rfl ?_
  refine wp_iconst (v := 1) dX8_deal_1 (by decide) rfl ?_
  refine wp_bipush (v := 12) dX8_deal_2 (by decide) rfl ?_
  refine wn_callS3d dX8_deal_4 rRX8_75 (Nat.le_of_ble_eq_true rfl) rfl rfl rfl (Nat.le_of_ble_eq_true rfl) rfl (c8_in) ?_
  refine wp_if_ne_b (t := 13) dX8_deal_7 rfl rfl (fun h7 => ?_) (fun h7 => ?_)
  · obtain ⟨n, hn1, hn12, rfl⟩ := one_nat (b := 12) (by omega) h7
    refine wp_iconst (v := 0) dX8_deal_13 (by decide) rfl ?_
    refine wp_istore_n (l' := [_, _, some _, _, _, _]) dX8_deal_14 rfl rfl ?_
    obtain ⟨e1, e2, _⟩ := dl_yes (f := (s.1 (41, 0, 0))) (c := c) h7 hn12
    refine (l8_deal hn12 0 (Nat.zero_le _) s _ _ _ c hc h1).conseq ?_
    rintro v σ1 ⟨y, t, rfl, rfl, hy, ht, hF⟩
    rw [Nat.zero_add, Nat.sub_zero] at hy
    rw [Nat.sub_zero] at ht
    exact ⟨_, _, rfl, rfl, hy.trans e1.symm, ht.trans e2.symm, hF⟩
  · refine wp_ldc dX8_deal_10 kRX8_83 rfl ?_
    refine wp_iret dX8_deal_12 rfl rfl ?_
    obtain ⟨e1, e2, _⟩ := dl_no (f := (s.1 (41, 0, 0))) (c := c) h7
    exact ⟨_, _, rfl, rfl, e1.symm, e2.symm, Fr.rf⟩
theorem l7_deal {m : Nat} {a : Option Av} (hm : m ≤ 12) : ∀ k, k ≤ m → ∀ (s1 : Sn) (f1 : Fl) (c1 : Nat), RV s1 0 f1 c1 → c1 + (m - k) ≤ 12 → Wp (d + 2) MX7_deal 30 [some (vR 10 0 0), a, some (vI (nI m)), some (vI (nI k))] [] (hN s1) (Pv fun y t => y = nI m ∧ RV t 0 (dls (m - k) c1 f1) (c1 + (m - k)) ∧ FQ (XR 0) s1 t) := by
  refine ind_up (fun k hk ih => ?_)
  intro s1 f1 c1 hV h12
  refine wp_iload_n dX7_deal_30 rfl rfl ?_
  refine wp_iload_n dX7_deal_31 rfl rfl ?_
  refine wp_icmp_ge (t := 48) dX7_deal_32 rfl rfl (fun h32 => ?_) (fun h32 => ?_)
  · refine wp_iload_n dX7_deal_48 rfl rfl ?_
    refine wp_iret dX7_deal_49 rfl rfl ?_
    have hkn : k = m := by have := (nI_leI (by omega) (by omega)).mp h32; omega
    subst hkn
    refine ⟨_, _, rfl, rfl, rfl, ?_, FQ.rf⟩
    rw [Nat.sub_self]
    exact hV
  · have hl : k < m := by have := mt (nI_leI (by omega) (by omega)).mpr h32; omega
    refine wp_aload_n dX7_deal_35 rfl rfl ?_
    refine wn_getR dX7_deal_36 fRX7_10 o10 rfl rfl rfl ?_
    refine wn_callV0n dX7_deal_39 rRX7_155 (rcv_of (o11 (by decide)) rfl) (Nat.le_of_ble_eq_true rfl)  (Nat.le_of_ble_eq_true rfl) rfl (c3_drawLog (by decide) (show c1 < 12 by omega) hV) (fun s39 hq39 => ?_)
    obtain ⟨hV39, hF39⟩ := hq39
    refine wp_iinc (l' := [_, _, _, some _]) (v := 1) dX7_deal_42 rfl (by decide) rfl rfl ?_
    refine wp_goto (t := 30) dX7_deal_45 rfl ?_
    rw [nI_1]
    refine (ih hl s39 _ (c1 + 1) hV39 (by omega)).conseq ?_
    rintro v σ1 ⟨y, t, rfl, rfl, hy, ht, hF⟩
    refine ⟨_, _, rfl, rfl, hy, ?_, hF39.tr hF⟩
    rw [show m - k = (m - (k + 1)) + 1 by omega, show c1 + (m - (k + 1) + 1) = c1 + 1 + (m - (k + 1)) by omega]
    exact ht
theorem c7_deal {s : Sn} {f : Fl} {c : Nat} {x : Int32} (hV : RV s 0 f c) : Ca (d + 2) MX7_deal [vR 10 0 0, vI x] (hN s) (Pv fun y t => y = dlA c x ∧ RV t 0 (dlF f c x) (dlC c x) ∧ FQ (XR 0) s t) := by
  change Wp _ _ 0 [some _, some _, none, none] [] _ _
  refine wp_iload_n dX7_deal_0 rfl rfl ?_
  refine wp_iconst (v := 1) dX7_deal_1 (by decide) rfl ?_
  refine wp_bipush (v := 12) dX7_deal_2 (by decide) rfl ?_
  refine wn_callS3d dX7_deal_4 rRX7_128 (Nat.le_of_ble_eq_true rfl) rfl rfl rfl (Nat.le_of_ble_eq_true rfl) rfl (c7_within) ?_
  refine wp_if_ne_b (t := 13) dX7_deal_7 rfl rfl (fun h7 => ?_) (fun h7 => ?_)
  · obtain ⟨n, hn1, hn12, rfl⟩ := one_nat (b := 12) (by omega) h7
    have hlc : s.1 (11, 0, 0) 6 = nI c := (hV.1.sc 1 (by decide)).trans hV.2.2.1
    refine wp_iload_n dX7_deal_13 rfl rfl ?_
    refine wp_bipush (v := 12) dX7_deal_14 (by decide) rfl ?_
    refine wp_aload_n dX7_deal_16 rfl rfl ?_
    refine wn_getR dX7_deal_17 fRX7_10 o10 rfl rfl rfl ?_
    refine wn_getI dX7_deal_20 fRX7_73 (o11 (by decide)) rfl rfl ?_
    rw [hlc, show (12 : Int32) = nI 12 from rfl]
    refine wp_isub dX7_deal_23 rfl ?_
    refine wp_min dX7_deal_24 rRX7_149 (by omega) (Nat.le_of_ble_eq_true rfl) rfl ?_
    rw [min_g hV.2.2.2 (by omega) (by omega)]
    refine wp_istore_n (l' := [_, _, some _, _]) dX7_deal_27 rfl rfl ?_
    refine wp_iconst (v := 0) dX7_deal_28 (by decide) rfl ?_
    refine wp_istore_n (l' := [_, _, _, some _]) dX7_deal_29 rfl rfl ?_
    obtain ⟨e1, e2, e3⟩ := dl_yes (f := f) (c := c) h7 hn12
    have hc12 := hV.2.2.2
    refine (l7_deal (m := min n (12 - c)) (by omega) 0 (Nat.zero_le _) s f c hV (by omega)).conseq ?_
    rintro v σ1 ⟨y, t, rfl, rfl, hy, ht, hF⟩
    rw [Nat.sub_zero] at ht
    exact ⟨_, _, rfl, rfl, hy.trans e1.symm, by rw [e2, e3]; exact ht, hF⟩
  · refine wp_ldc dX7_deal_10 kRX7_68 rfl ?_
    refine wp_iret dX7_deal_12 rfl rfl ?_
    obtain ⟨e1, e2, e3⟩ := dl_no (f := f) (c := c) h7
    exact ⟨_, _, rfl, rfl, e1.symm, by rw [e2, e3]; exact hV, FQ.rf⟩
end
