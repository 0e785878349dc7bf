/-! THE PURE PART, 56: tell, keep, back -/
section
variable {d i j : Nat}
theorem l8_cpr {s : Sn} {a b : Nat} (ha : ∀ s : Sn, okr (hN s) (41, a, 0) = true) (hb : ∀ s : Sn, okr (hN s) (41, b, 0) = true) (la : mln.getD a 0 = 1477) (lb : mln.getD b 0 = 1477) (hab : a ≠ b) : ∀ k, k ≤ 1477 → ∀ s1 : Sn, (∀ q, s1.1 (41, b, 0) q = if q < k then s.1 (41, a, 0) q else s.1 (41, b, 0) q) → FQ (fun r => r = (41, b, 0)) s s1 → Wp d MX8_copyAll 2 [some (vR 41 a 0), some (vR 41 b 0), some (vI (nI k))] [] (hN s1) (Pn fun t => (∀ q, t.1 (41, b, 0) q = if q < 1477 then s.1 (41, a, 0) q else s.1 (41, b, 0) q) ∧ FQ (fun r => r = (41, b, 0)) s t) := by
  refine ind_up (fun k hk ih => ?_)
  intro s1 hq hF
  refine wp_iload_n dX8_copyAll_2 rfl rfl ?_
  refine wp_sipush (v := 1477) dX8_copyAll_3 (by decide) rfl ?_
  refine wp_icmp_ge (t := 21) dX8_copyAll_6 rfl rfl (fun h6 => ?_) (fun h6 => ?_)
  · refine wp_ret dX8_copyAll_21 rfl ?_
    have hk2 : k = 1477 := by have := (nI_leI (a := 1477) (by omega) (by omega)).mp h6; omega
    exact ⟨_, rfl, rfl, hk2 ▸ hq, hF⟩
  · have hl : k < 1477 := by have := mt (nI_leI (a := 1477) (by omega) (by omega)).mpr h6; omega
    refine wp_aload_n dX8_copyAll_9 rfl rfl ?_
    refine wp_iload_n dX8_copyAll_10 rfl rfl ?_
    refine wp_aload_n dX8_copyAll_11 rfl rfl ?_
    refine wp_iload_n dX8_copyAll_12 rfl rfl ?_
    refine wn_iald dX8_copyAll_13 (ha _) rfl (nIx rfl (by omega)) (show k < mln.getD a 0 by omega) rfl ?_
    rw [hF.1 (41, a, 0) (fun z => hab (congrArg (fun r : Rf => r.2.1) z))]
    refine wn_iast dX8_copyAll_14 (hb _) rfl (nIx rfl (by omega)) (show k < mln.getD b 0 by omega) rfl ?_
    refine wp_iinc (l' := [_, _, some _]) (v := 1) dX8_copyAll_15 rfl (by decide) rfl rfl ?_
    refine wp_goto (t := 2) dX8_copyAll_18 rfl ?_
    have hX : (fun r : Rf => r = (41, b, 0)) (41, b, 0) := rfl
    rw [nI_1]
    refine ih hl _ (fun q => ?_) (hF.pt hX)
    rw [sI_row]
    by_cases e : q = k
    · rw [e, upd_eq, if_pos (by omega)]
    · rw [upd_ne e, hq q]
      by_cases e2 : q < k
      · rw [if_pos e2, if_pos (by omega)]
      · rw [if_neg e2, if_neg (by omega)]
theorem c8_copyR {s : Sn} {a b : Nat} (ha : ∀ s : Sn, okr (hN s) (41, a, 0) = true) (hb : ∀ s : Sn, okr (hN s) (41, b, 0) = true) (la : mln.getD a 0 = 1477) (lb : mln.getD b 0 = 1477) (hab : a ≠ b) (hz : ∀ q, 1477 ≤ q → s.1 (41, a, 0) q = s.1 (41, b, 0) q) : Ca d MX8_copyAll [vR 41 a 0, vR 41 b 0] (hN s) (Pn fun t => t.1 (41, b, 0) = s.1 (41, a, 0) ∧ Fr [(41, b, 0)] s t) := by
  change Wp _ _ 0 [some _, some _, none] [] _ _
  refine wp_iconst (v := 0) dX8_copyAll_0 (by decide) rfl ?_
  refine wp_istore_n (l' := [_, _, some _]) dX8_copyAll_1 rfl rfl ?_
  refine (l8_cpr ha hb la lb hab 0 (Nat.zero_le _) s (fun q => (if_neg (Nat.not_lt_zero q)).symm) FQ.rf).conseq ?_
  rintro v σ ⟨t, rfl, rfl, h1, h2⟩
  refine ⟨t, rfl, rfl, ?_, fun r hr => h2.1 r (fun z => hr (List.mem_singleton.mpr z)), h2.2⟩
  funext q
  rw [h1 q]
  by_cases e : q < 1477
  · rw [if_pos e]
  · rw [if_neg e]; exact (hz q (by omega)).symm
/-- the rows of the reference beyond their ends -/
def HZ (s : Sn) : Prop := ∀ q, 1477 ≤ q → s.1 (41, 0, 0) q = 0 ∧ s.1 (41, 1, 0) q = 0 ∧ s.1 (41, 2, 0) q = 0
theorem c8_keep {s : Sn} (hz : HZ s) : Ca (d + 1) MX8_keep [vR 40 0 0] (hN s) (Pv fun z t => z = (s.1 (41, 0, 0)) 1 ∧ t.1 (41, 1, 0) = (s.1 (41, 0, 0)) ∧ t.1 (40, 0, 0) = upd (s.1 (40, 0, 0)) 3 1 ∧ Fr [(41, 1, 0), (40, 0, 0)] s t) := by
  change Wp _ _ 0 [some _] [] _ _
  refine wp_aload_n dX8_keep_0 rfl rfl ?_
  refine wn_getR dX8_keep_1 fRX8_9 o40 rfl rfl rfl ?_
  refine wp_aload_n dX8_keep_4 rfl rfl ?_
  refine wn_getR dX8_keep_5 fRX8_13 o40 rfl rfl rfl ?_
  refine wn_callS2n dX8_keep_8 rRX8_258 (Nat.le_of_ble_eq_true rfl) rfl rfl (Nat.le_of_ble_eq_true rfl) rfl (c8_copyR (a := 0) (b := 1) (fun _ => o41 0 rfl) (fun _ => o41 1 rfl) rfl rfl (by decide) (fun q hq => (hz q hq).1.trans (hz q hq).2.1.symm)) (fun s8 hq8 => ?_)
  obtain ⟨e8, hF8⟩ := hq8
  refine wp_aload_n dX8_keep_11 rfl rfl ?_
  refine wp_iconst (v := 1) dX8_keep_12 (by decide) rfl ?_
  refine wn_putZ dX8_keep_13 fRX8_254 o40 rfl rfl (by decide) rfl ?_
  refine wp_aload_n dX8_keep_16 rfl rfl ?_
  refine wn_getR dX8_keep_17 fRX8_9 o40 rfl rfl rfl ?_
  refine wp_iconst (v := 1) dX8_keep_20 (by decide) rfl ?_
  refine wn_iald (j := 1) dX8_keep_21 (o41 0 rfl) rfl ⟨by decide, by decide⟩ (Nat.le_of_ble_eq_true rfl) rfl ?_
  refine wp_iret dX8_keep_22 rfl rfl ?_
  refine ⟨_, _, rfl, rfl, ?_, ?_, ?_, (hF8.wd (by decide)).pt (by decide)⟩
  · rw [sI_nr (by decide), hF8.1 (41, 0, 0) (by decide)]
  · rw [sI_nr (by decide)]; exact e8
  · rw [sI_row, hF8.1 (40, 0, 0) (by decide)]
theorem c7_keep {s : Sn} {f : Fl} {c c8 : Nat} (h : RVL s 0 f c c8) (hc8 : c8 ≤ 14) : Ca (d + 2) MX7_keep [vR 10 0 0] (hN s) (Pv fun z t => z = f 1 ∧ RVL t 1 f c c8 ∧ t.1 (10, 0, 0) = upd (s.1 (10, 0, 0)) 9 1 ∧ FW (fun r => XT 1 r ∨ r = (10, 0, 0)) (fun a => a = 1) s t) := by
  change Wp _ _ 0 [some _] [] _ _
  refine wp_aload_n dX7_keep_0 rfl rfl ?_
  refine wn_getR dX7_keep_1 fRX7_16 o10 rfl rfl rfl ?_
  refine wp_aload_n dX7_keep_4 rfl rfl ?_
  refine wn_getR dX7_keep_5 fRX7_10 o10 rfl rfl rfl ?_
  refine wn_callV1n dX7_keep_8 rRX7_200 (rcv_of (o11 (by decide)) rfl) (Nat.le_of_ble_eq_true rfl) rfl (Nat.le_of_ble_eq_true rfl) rfl (c3_takes (i := 1) (j := 0) (by decide) (by decide) (by decide) h hc8) (fun s8 hq8 => ?_)
  obtain ⟨h8, hF8⟩ := hq8
  refine wp_aload_n dX7_keep_11 rfl rfl ?_
  refine wp_iconst (v := 1) dX7_keep_12 (by decide) rfl ?_
  refine wn_putZ dX7_keep_13 fRX7_52 o10 rfl rfl (by decide) rfl ?_
  refine wp_aload_n dX7_keep_16 rfl rfl ?_
  refine wn_getR dX7_keep_17 fRX7_16 o10 rfl rfl rfl ?_
  refine wn_getI dX7_keep_20 fRX7_73 (o11 (by decide)) rfl rfl ?_
  refine wp_iret dX7_keep_23 rfl rfl ?_
  refine ⟨_, _, rfl, rfl, ?_, ?_, ?_, (hF8.wd (fun r z => Or.inl z) (fun a z => z)).pt (Or.inr rfl)⟩
  · rw [sI_nr (by decide)]; exact h8.1.1.sc 1 (by decide)
  · exact h8.cg (I := fun _ => False) ((FQ.rf.pt (X := fun r => r = (10, 0, 0)) rfl).fw) (fun r z => by rw [z]; exact ⟨by decide, by decide⟩) (fun z => z)
  · rw [sI_row, hF8.1 (10, 0, 0) (fun z => absurd z.1 (by decide))]
def bkA (h a : Int32) : Int32 := if h = 0 then -1000000002 else a
def bkF (h : Int32) (f g : Fl) : Fl := if h = 0 then f else g
theorem c8_back {s : Sn} (hz : HZ s) : Ca (d + 1) MX8_back [vR 40 0 0] (hN s) (Pv fun z t => z = bkA (s.1 (40, 0, 0) 3) (s.1 (41, 1, 0) 1) ∧ t.1 (41, 0, 0) = bkF (s.1 (40, 0, 0) 3) (s.1 (41, 0, 0)) (s.1 (41, 1, 0)) ∧ Fr [(41, 0, 0)] s t) := by
  change Wp _ _ 0 [some _] [] _ _
  refine wp_aload_n dX8_back_0 rfl rfl ?_
  refine wn_getI dX8_back_1 fRX8_254 o40 rfl rfl ?_
  refine wp_if_ne (t := 10) dX8_back_4 rfl rfl (fun h4 => ?_) (fun h4 => ?_)
  · refine wp_aload_n dX8_back_10 rfl rfl ?_
    refine wn_getR dX8_back_11 fRX8_13 o40 rfl rfl rfl ?_
    refine wp_aload_n dX8_back_14 rfl rfl ?_
    refine wn_getR dX8_back_15 fRX8_9 o40 rfl rfl rfl ?_
    refine wn_callS2n dX8_back_18 rRX8_258 (Nat.le_of_ble_eq_true rfl) rfl rfl (Nat.le_of_ble_eq_true rfl) rfl (c8_copyR (a := 1) (b := 0) (fun _ => o41 1 rfl) (fun _ => o41 0 rfl) rfl rfl (by decide) (fun q hq => (hz q hq).2.1.trans (hz q hq).1.symm)) (fun s18 hq18 => ?_)
    obtain ⟨e8, hF8⟩ := hq18
    refine wp_aload_n dX8_back_21 rfl rfl ?_
    refine wn_getR dX8_back_22 fRX8_9 o40 rfl rfl rfl ?_
    refine wp_iconst (v := 1) dX8_back_25 (by decide) rfl ?_
    refine wn_iald (j := 1) dX8_back_26 (o41 0 rfl) rfl ⟨by decide, by decide⟩ (Nat.le_of_ble_eq_true rfl) rfl ?_
    refine wp_iret dX8_back_27 rfl rfl ?_
    refine ⟨_, _, rfl, rfl, ?_, ?_, hF8⟩
    · rw [e8]; exact (if_neg h4).symm
    · rw [e8]; exact (if_neg h4).symm
  · refine wp_ldc dX8_back_7 kRX8_127 rfl ?_
    refine wp_iret dX8_back_9 rfl rfl ?_
    exact ⟨_, _, rfl, rfl, (if_pos h4).symm, (if_pos h4).symm, Fr.rf⟩
theorem c7_back {s : Sn} {f : Fl} {c c8 : Nat} (h : RVL s 1 f c c8) (hc8 : c8 ≤ 14) (hh : ¬ s.1 (10, 0, 0) 9 = 0) : Ca (d + 2) MX7_back [vR 10 0 0] (hN s) (Pv fun z t => z = f 1 ∧ RVL t 0 f c c8 ∧ FW (XT 0) (fun a => a = 0) s t) := by
  change Wp _ _ 0 [some _] [] _ _
  refine wp_aload_n dX7_back_0 rfl rfl ?_
  refine wn_getI dX7_back_1 fRX7_52 o10 rfl rfl ?_
  refine wp_if_ne (t := 10) dX7_back_4 rfl rfl (fun h4 => ?_) (fun h4 => absurd h4 hh)
  refine wp_aload_n dX7_back_10 rfl rfl ?_
  refine wn_getR dX7_back_11 fRX7_10 o10 rfl rfl rfl ?_
  refine wp_aload_n dX7_back_14 rfl rfl ?_
  refine wn_getR dX7_back_15 fRX7_16 o10 rfl rfl rfl ?_
  refine wn_callV1n dX7_back_18 rRX7_200 (rcv_of (o11 (by decide)) rfl) (Nat.le_of_ble_eq_true rfl) rfl (Nat.le_of_ble_eq_true rfl) rfl (c3_takes (i := 0) (j := 1) (by decide) (by decide) (by decide) h hc8) (fun s18 hq18 => ?_)
  obtain ⟨h8, hF8⟩ := hq18
  refine wp_aload_n dX7_back_21 rfl rfl ?_
  refine wn_getR dX7_back_22 fRX7_10 o10 rfl rfl rfl ?_
  refine wn_getI dX7_back_25 fRX7_73 (o11 (by decide)) rfl rfl ?_
  refine wp_iret dX7_back_28 rfl rfl ?_
  exact ⟨_, _, rfl, rfl, h8.1.1.sc 1 (by decide), h8, hF8⟩
theorem c7_backNo {s : Sn} (hh : s.1 (10, 0, 0) 9 = 0) : Ca (d + 2) MX7_back [vR 10 0 0] (hN s) (Pd (-1000000002) s) := by
  change Wp _ _ 0 [some _] [] _ _
  refine wp_aload_n dX7_back_0 rfl rfl ?_
  refine wn_getI dX7_back_1 fRX7_52 o10 rfl rfl ?_
  refine wp_if_ne (t := 10) dX7_back_4 rfl rfl (fun h4 => absurd hh h4) (fun h4 => ?_)
  refine wp_ldc dX7_back_7 kRX7_127 rfl ?_
  refine wp_iret dX7_back_9 rfl rfl ?_
  exact Pd.mk
def teA (k : Nat) : Int32 := if k = 60 then -1000000003 else nI (k + 1)
def teF (te : Fl) (k : Nat) (v : Int32) : Fl := if k = 60 then te else upd te k v
def teK (k : Nat) : Nat := if k = 60 then k else k + 1
/-- what is told and not checked yet -/
def TE (s : Sn) (te : Fl) (k : Nat) : Prop := s.1 (10, 0, 0) 8 = nI k ∧ ∀ q, q < 60 → s.1 (27, 0, 0) q = te q
theorem upd_self2 {f : Fl} {k : Nat} : upd f k (f k) = f := by
  funext q
  by_cases e : q = k
  · rw [e, upd_eq]
  · rw [upd_ne e]
theorem c8_tell {s : Sn} {k : Nat} {v : Int32} (hk : k ≤ 60) (h32 : s.1 (40, 0, 0) 32 = nI k) : Ca d MX8_tell [vR 40 0 0, vI v] (hN s) (Pv fun z t => z = teA k ∧ t.1 (41, 20, 0) = teF (s.1 (41, 20, 0)) k v ∧ t.1 (40, 0, 0) = upd (s.1 (40, 0, 0)) 32 (nI (teK k)) ∧ Fr [(41, 20, 0), (40, 0, 0)] s t) := by
  change Wp _ _ 0 [some _, some _] [] _ _
  refine wp_aload_n dX8_tell_0 rfl rfl ?_
  refine wn_getI dX8_tell_1 fRX8_251 o40 rfl rfl ?_
  rw [h32]
  refine wp_bipush (v := 60) dX8_tell_4 (by decide) rfl ?_
  refine wp_icmp_ne (t := 12) dX8_tell_6 rfl rfl (fun h6 => ?_) (fun h6 => ?_)
  · have hk60 : ¬ k = 60 := fun z => h6 (by rw [z]; rfl)
    refine wp_aload_n dX8_tell_12 rfl rfl ?_
    refine wn_getR dX8_tell_13 fRX8_72 o40 rfl rfl rfl ?_
    refine wp_aload_n dX8_tell_16 rfl rfl ?_
    refine wn_getI dX8_tell_17 fRX8_251 o40 rfl rfl ?_
    rw [h32]
    refine wp_iload_n dX8_tell_20 rfl rfl ?_
    refine wn_iast dX8_tell_21 (o41 20 rfl) rfl (nIx rfl (by omega)) (show k < 60 by omega) rfl ?_
    refine wp_aload_n dX8_tell_22 rfl rfl ?_
    refine wp_dup dX8_tell_23 rfl rfl ?_
    refine wn_getI dX8_tell_24 fRX8_251 o40 rfl rfl ?_
    rw [sI_nr (by decide), h32]
    refine wp_iconst (v := 1) dX8_tell_27 (by decide) rfl ?_
    refine wp_iadd dX8_tell_28 rfl ?_
    rw [nI_1]
    refine wn_putI dX8_tell_29 fRX8_251 o40 rfl rfl rfl ?_
    refine wp_aload_n dX8_tell_32 rfl rfl ?_
    refine wn_getI dX8_tell_33 fRX8_251 o40 rfl rfl ?_
    refine wp_iret dX8_tell_36 rfl rfl ?_
    refine ⟨_, _, rfl, rfl, ?_, ?_, ?_, (Fr.rf.pt (by decide)).pt (by decide)⟩
    · rw [sI_row, upd_eq]; exact (if_neg hk60).symm
    · rw [sI_nr (by decide), sI_row]; exact (if_neg hk60).symm
    · rw [sI_row, sI_nr (by decide), show teK k = k + 1 from if_neg hk60]
  · refine wp_ldc dX8_tell_9 kRX8_84 rfl ?_
    refine wp_iret dX8_tell_11 rfl rfl ?_
    have hk60 : k = 60 := (nI_eq (b := 60) (by omega) (by decide)).mp h6
    refine ⟨_, _, rfl, rfl, (if_pos hk60).symm, (if_pos hk60).symm, ?_, Fr.rf⟩
    rw [show teK k = k from if_pos hk60, ← h32, upd_self2]
theorem c7_tell {s : Sn} {te : Fl} {k : Nat} {v : Int32} (hk : k ≤ 60) (h : TE s te k) : Ca d MX7_tell [vR 10 0 0, vI v] (hN s) (Pv fun z t => z = teA k ∧ TE t (teF te k v) (teK k) ∧ t.1 (10, 0, 0) = upd (s.1 (10, 0, 0)) 8 (nI (teK k)) ∧ FQ (fun r => r = (27, 0, 0) ∨ r = (10, 0, 0)) s t) := by
  change Wp _ _ 0 [some _, some _] [] _ _
  obtain ⟨h8, hte⟩ := h
  refine wp_aload_n dX7_tell_0 rfl rfl ?_
  refine wn_getI dX7_tell_1 fRX7_48 o10 rfl rfl ?_
  rw [h8]
  refine wp_bipush (v := 60) dX7_tell_4 (by decide) rfl ?_
  refine wp_icmp_lt (t := 12) dX7_tell_6 rfl rfl (fun h6 => ?_) (fun h6 => ?_)
  · have hk60 : ¬ k = 60 := fun z => by have := (nI_ltI (b := 60) (by omega) (by decide)).mp h6; omega
    refine wp_aload_n dX7_tell_12 rfl rfl ?_
    refine wn_getR dX7_tell_13 fRX7_44 o10 rfl rfl rfl ?_
    refine wp_aload_n dX7_tell_16 rfl rfl ?_
    refine wn_getI dX7_tell_17 fRX7_48 o10 rfl rfl ?_
    rw [h8]
    refine wp_iload_n dX7_tell_20 rfl rfl ?_
    refine wn_iast dX7_tell_21 o27 rfl (nIx rfl (by omega)) (show k < 60 by omega) rfl ?_
    refine wp_aload_n dX7_tell_22 rfl rfl ?_
    refine wp_dup dX7_tell_23 rfl rfl ?_
    refine wn_getI dX7_tell_24 fRX7_48 o10 rfl rfl ?_
    rw [sI_nr (by decide), h8]
    refine wp_iconst (v := 1) dX7_tell_27 (by decide) rfl ?_
    refine wp_iadd dX7_tell_28 rfl ?_
    rw [nI_1]
    refine wn_putI dX7_tell_29 fRX7_48 o10 rfl rfl rfl ?_
    refine wp_aload_n dX7_tell_32 rfl rfl ?_
    refine wn_getI dX7_tell_33 fRX7_48 o10 rfl rfl ?_
    refine wp_iret dX7_tell_36 rfl rfl ?_
    refine ⟨_, _, rfl, rfl, ?_, ⟨?_, fun q hq => ?_⟩, ?_, (FQ.pt (X := fun r : Rf => r = (27, 0, 0) ∨ r = (10, 0, 0)) FQ.rf (Or.inl rfl)).pt (Or.inr rfl)⟩
    · rw [sI_row, upd_eq]; exact (if_neg hk60).symm
    · rw [sI_row, upd_eq, show teK k = k + 1 from if_neg hk60]
    · rw [sI_nr (by decide), sI_row, show teF te k v = upd te k v from if_neg hk60]
      by_cases e : q = k
      · rw [e, upd_eq, upd_eq]
      · rw [upd_ne e, upd_ne e]; exact hte q hq
    · rw [sI_row, sI_nr (by decide), show teK k = k + 1 from if_neg hk60]
  · refine wp_ldc dX7_tell_9 kRX7_76 rfl ?_
    refine wp_iret dX7_tell_11 rfl rfl ?_
    have hk60 : k = 60 := by have := mt (nI_ltI (b := 60) (by omega) (by decide)).mpr h6; omega
    refine ⟨_, _, rfl, rfl, (if_pos hk60).symm, ⟨?_, ?_⟩, ?_, FQ.rf⟩
    · rw [show teK k = k from if_pos hk60]; exact h8
    · rw [show teF te k v = te from if_pos hk60]; exact hte
    · rw [show teK k = k from if_pos hk60, ← h8, upd_self2]
end
