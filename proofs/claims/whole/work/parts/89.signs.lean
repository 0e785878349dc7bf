/-! THE PURE PART, 70: the class's signs that wait -/
section
variable {d : Nat}
theorem c2_topSign {s : Sn} {h : Nat} (hh : h < 96) (e5 : s.1 (20, 0, 0) 5 = nI (h + 1)) : Ca d MX2_topSign [vR 20 0 0] (hN s) (Pd (s.1 (24, 0, 0) h) s) := by
  change Wp _ _ 0 [some _] [] _ _
  refine wp_aload_n dX2_topSign_0 rfl rfl ?_
  refine wn_getI dX2_topSign_1 fRX2_32 o20 rfl rfl ?_
  rw [e5]
  refine wp_if_le (t := 30) dX2_topSign_4 rfl rfl (fun h4 => absurd h4 (nI_nle (by omega) (by omega))) (fun h4 => ?_)
  refine wp_aload_n dX2_topSign_7 rfl rfl ?_
  refine wn_getI dX2_topSign_8 fRX2_32 o20 rfl rfl ?_
  rw [e5]
  refine wp_bipush (v := 96) dX2_topSign_11 (by decide) rfl ?_
  refine wp_icmp_gt (t := 30) dX2_topSign_13 rfl rfl (fun h13 => absurd ((nI_ltI (a := 96) (by decide) (by omega)).mp h13) (by omega)) (fun h13 => ?_)
  refine wp_aload_n dX2_topSign_16 rfl rfl ?_
  refine wn_getR dX2_topSign_17 fRX2_22 o20 rfl rfl rfl ?_
  refine wp_aload_n dX2_topSign_20 rfl rfl ?_
  refine wn_getI dX2_topSign_21 fRX2_32 o20 rfl rfl ?_
  refine wp_iconst (v := 1) dX2_topSign_24 (by decide) rfl ?_
  refine wp_isub dX2_topSign_25 rfl ?_
  rw [e5, nI_pred]
  refine wn_iald dX2_topSign_26 o24 rfl (nIx rfl (by omega)) (show h < 96 by omega) rfl ?_
  refine wp_goto (t := 31) dX2_topSign_27 rfl ?_
  refine wp_iret dX2_topSign_31 rfl rfl ?_
  exact Pd.mk
theorem c2_pop {s : Sn} {h : Nat} (hh : h < 96) (e5 : s.1 (20, 0, 0) 5 = nI (h + 1)) : Ca d MX2_pop [vR 20 0 0] (hN s) (Pd (s.1 (24, 0, 0) h) (sI s (20, 0, 0) 5 (nI h))) := by
  change Wp _ _ 0 [some _] [] _ _
  refine wp_aload_n dX2_pop_0 rfl rfl ?_
  refine wn_getI dX2_pop_1 fRX2_32 o20 rfl rfl ?_
  rw [e5]
  refine wp_if_le (t := 16) dX2_pop_4 rfl rfl (fun h4 => absurd h4 (nI_nle (by omega) (by omega))) (fun h4 => ?_)
  refine wp_aload_n dX2_pop_7 rfl rfl ?_
  refine wn_getI dX2_pop_8 fRX2_32 o20 rfl rfl ?_
  rw [e5]
  refine wp_bipush (v := 96) dX2_pop_11 (by decide) rfl ?_
  refine wp_icmp_le (t := 18) dX2_pop_13 rfl rfl (fun h13 => ?_) (fun h13 => absurd ((nI_leI (b := 96) (by omega) (by decide)).mpr (by omega)) h13)
  refine wp_aload_n dX2_pop_18 rfl rfl ?_
  refine wp_dup dX2_pop_19 rfl rfl ?_
  refine wn_getI dX2_pop_20 fRX2_32 o20 rfl rfl ?_
  rw [e5]
  refine wp_iconst (v := 1) dX2_pop_23 (by decide) rfl ?_
  refine wp_isub dX2_pop_24 rfl ?_
  rw [nI_pred]
  refine wn_putI dX2_pop_25 fRX2_32 o20 rfl rfl rfl ?_
  refine wp_aload_n dX2_pop_28 rfl rfl ?_
  refine wn_getR dX2_pop_29 fRX2_22 o20 rfl rfl rfl ?_
  refine wp_aload_n dX2_pop_32 rfl rfl ?_
  refine wn_getI dX2_pop_33 fRX2_32 o20 rfl rfl ?_
  rw [sI_row, upd_eq]
  refine wn_iald dX2_pop_36 o24 rfl (nIx rfl (by omega)) (show h < 96 by omega) rfl ?_
  rw [sI_nr (by decide)]
  refine wp_iret dX2_pop_37 rfl rfl ?_
  exact Pd.mk
theorem c2_push {s : Sn} {h : Nat} {x : Int32} (hh : h < 96) (e5 : s.1 (20, 0, 0) 5 = nI h) : Ca d MX2_push [vR 20 0 0, vI x] (hN s) (Pn fun t => t = sI (sI s (24, 0, 0) h x) (20, 0, 0) 5 (nI (h + 1))) := by
  change Wp _ _ 0 [some _, some _] [] _ _
  refine wp_aload_n dX2_push_0 rfl rfl ?_
  refine wn_getI dX2_push_1 fRX2_32 o20 rfl rfl ?_
  rw [e5]
  refine wp_bipush (v := 96) dX2_push_4 (by decide) rfl ?_
  refine wp_icmp_ge (t := 29) dX2_push_6 rfl rfl (fun h6 => absurd ((nI_leI (a := 96) (by decide) (by omega)).mp h6) (by omega)) (fun h6 => ?_)
  refine wp_aload_n dX2_push_9 rfl rfl ?_
  refine wn_getR dX2_push_10 fRX2_22 o20 rfl rfl rfl ?_
  refine wp_aload_n dX2_push_13 rfl rfl ?_
  refine wn_getI dX2_push_14 fRX2_32 o20 rfl rfl ?_
  rw [e5]
  refine wp_iload_n dX2_push_17 rfl rfl ?_
  refine wn_iast dX2_push_18 o24 rfl (nIx rfl (by omega)) (show h < 96 by omega) rfl ?_
  refine wp_aload_n dX2_push_19 rfl rfl ?_
  refine wp_dup dX2_push_20 rfl rfl ?_
  refine wn_getI dX2_push_21 fRX2_32 o20 rfl rfl ?_
  rw [sI_nr (by decide), e5]
  refine wp_iconst (v := 1) dX2_push_24 (by decide) rfl ?_
  refine wp_iadd dX2_push_25 rfl ?_
  rw [nI_1]
  refine wn_putI dX2_push_26 fRX2_32 o20 rfl rfl rfl ?_
  refine wp_ret dX2_push_29 rfl ?_
  exact ⟨_, rfl, rfl, rfl⟩
theorem c2_addCode {s : Sn} {h : Nat} {x : Int32} (hh : h < 96) (e5 : s.1 (20, 0, 0) 4 = nI h) : Ca d MX2_addCode [vR 20 0 0, vI x] (hN s) (Pn fun t => t = sI (sI s (23, 0, 0) h x) (20, 0, 0) 4 (nI (h + 1))) := by
  change Wp _ _ 0 [some _, some _] [] _ _
  refine wp_aload_n dX2_addCode_0 rfl rfl ?_
  refine wn_getI dX2_addCode_1 fRX2_29 o20 rfl rfl ?_
  rw [e5]
  refine wp_bipush (v := 96) dX2_addCode_4 (by decide) rfl ?_
  refine wp_icmp_ge (t := 29) dX2_addCode_6 rfl rfl (fun h6 => absurd ((nI_leI (a := 96) (by decide) (by omega)).mp h6) (by omega)) (fun h6 => ?_)
  refine wp_aload_n dX2_addCode_9 rfl rfl ?_
  refine wn_getR dX2_addCode_10 fRX2_18 o20 rfl rfl rfl ?_
  refine wp_aload_n dX2_addCode_13 rfl rfl ?_
  refine wn_getI dX2_addCode_14 fRX2_29 o20 rfl rfl ?_
  rw [e5]
  refine wp_iload_n dX2_addCode_17 rfl rfl ?_
  refine wn_iast dX2_addCode_18 o23 rfl (nIx rfl (by omega)) (show h < 96 by omega) rfl ?_
  refine wp_aload_n dX2_addCode_19 rfl rfl ?_
  refine wp_dup dX2_addCode_20 rfl rfl ?_
  refine wn_getI dX2_addCode_21 fRX2_29 o20 rfl rfl ?_
  rw [sI_nr (by decide), e5]
  refine wp_iconst (v := 1) dX2_addCode_24 (by decide) rfl ?_
  refine wp_iadd dX2_addCode_25 rfl ?_
  rw [nI_1]
  refine wn_putI dX2_addCode_26 fRX2_29 o20 rfl rfl rfl ?_
  refine wp_ret dX2_addCode_29 rfl ?_
  exact ⟨_, rfl, rfl, rfl⟩
def lev (x : Int32) : Int32 := if x = 38 then 2 else if x = 42 then 5 else if x = 43 then 4 else if x = 45 then 4 else if x = 47 then 5 else if x = 60 then 3 else if x = 61 then 3 else if x = 62 then 3 else if x = 124 then 1 else 0
theorem c2_levelOf {s : Sn} {x : Int32} : Ca d MX2_levelOf [vI x] (hN s) (Pd (lev x) s) := by
  change Wp _ _ 0 [some _] [] _ _
  refine wp_iload_n dX2_levelOf_0 rfl rfl ?_
  refine wp_lsw9 (c0 := 38) (c1 := 42) (c2 := 43) (c3 := 45) (c4 := 47) (c5 := 60) (c6 := 61) (c7 := 62) (c8 := 124) (t0 := 86) (t1 := 92) (t2 := 90) (t3 := 90) (t4 := 92) (t5 := 88) (t6 := 88) (t7 := 88) (t8 := 84) (t := 94) dX2_levelOf_1 rfl (by decide) (by decide) (by decide) (by decide) (by decide) (by decide) (by decide) (by decide) (by decide) (by decide) (by decide) (by decide) (by decide) (by decide) (by decide) (by decide) (by decide) (by decide) (by decide) rfl rfl rfl rfl rfl rfl rfl rfl rfl rfl (fun k1 => ?_) (fun k1 => ?_) (fun k1 => ?_) (fun k1 => ?_) (fun k1 => ?_) (fun k1 => ?_) (fun k1 => ?_) (fun k1 => ?_) (fun k1 => ?_) (fun n1_0 n1_1 n1_2 n1_3 n1_4 n1_5 n1_6 n1_7 n1_8 => ?_)
  · refine wp_iconst (v := 2) dX2_levelOf_86 (by decide) rfl ?_
    refine wp_iret dX2_levelOf_87 rfl rfl ?_
    refine ⟨_, _, rfl, rfl, ?_, rfl⟩
    unfold lev
    rw [k1]
    rfl
  · refine wp_iconst (v := 5) dX2_levelOf_92 (by decide) rfl ?_
    refine wp_iret dX2_levelOf_93 rfl rfl ?_
    refine ⟨_, _, rfl, rfl, ?_, rfl⟩
    unfold lev
    rw [k1]
    rfl
  · refine wp_iconst (v := 4) dX2_levelOf_90 (by decide) rfl ?_
    refine wp_iret dX2_levelOf_91 rfl rfl ?_
    refine ⟨_, _, rfl, rfl, ?_, rfl⟩
    unfold lev
    rw [k1]
    rfl
  · refine wp_iconst (v := 4) dX2_levelOf_90 (by decide) rfl ?_
    refine wp_iret dX2_levelOf_91 rfl rfl ?_
    refine ⟨_, _, rfl, rfl, ?_, rfl⟩
    unfold lev
    rw [k1]
    rfl
  · refine wp_iconst (v := 5) dX2_levelOf_92 (by decide) rfl ?_
    refine wp_iret dX2_levelOf_93 rfl rfl ?_
    refine ⟨_, _, rfl, rfl, ?_, rfl⟩
    unfold lev
    rw [k1]
    rfl
  · refine wp_iconst (v := 3) dX2_levelOf_88 (by decide) rfl ?_
    refine wp_iret dX2_levelOf_89 rfl rfl ?_
    refine ⟨_, _, rfl, rfl, ?_, rfl⟩
    unfold lev
    rw [k1]
    rfl
  · refine wp_iconst (v := 3) dX2_levelOf_88 (by decide) rfl ?_
    refine wp_iret dX2_levelOf_89 rfl rfl ?_
    refine ⟨_, _, rfl, rfl, ?_, rfl⟩
    unfold lev
    rw [k1]
    rfl
  · refine wp_iconst (v := 3) dX2_levelOf_88 (by decide) rfl ?_
    refine wp_iret dX2_levelOf_89 rfl rfl ?_
    refine ⟨_, _, rfl, rfl, ?_, rfl⟩
    unfold lev
    rw [k1]
    rfl
  · refine wp_iconst (v := 1) dX2_levelOf_84 (by decide) rfl ?_
    refine wp_iret dX2_levelOf_85 rfl rfl ?_
    refine ⟨_, _, rfl, rfl, ?_, rfl⟩
    unfold lev
    rw [k1]
    rfl
  · refine wp_iconst (v := 0) dX2_levelOf_94 (by decide) rfl ?_
    refine wp_iret dX2_levelOf_95 rfl rfl ?_
    refine ⟨_, _, rfl, rfl, ?_, rfl⟩
    unfold lev
    rw [if_neg n1_0, if_neg n1_1, if_neg n1_2, if_neg n1_3, if_neg n1_4, if_neg n1_5, if_neg n1_6, if_neg n1_7, if_neg n1_8]
/-- a sign that waits, as the class writes it -/
def sch (x : Int32) : Int32 := if x = -11 then 40 else trC x - 20000
def sgs : List Int32 := [-1, -2, -3, -4, -5, -6, -7, -8, -9, -10, -11]
theorem sch_t : sgs.all (fun x => decide (20000 + sch x = if x = -11 then 20040 else trC x)) = true := by decide +kernel
theorem sch_c {x : Int32} (h : x ∈ sgs) (h11 : ¬ x = -11) : 20000 + sch x = trC x := by
  have := of_decide_eq_true (List.all_eq_true.mp sch_t x h)
  rwa [if_neg h11] at this
theorem sch_l : sgs.all (fun x => decide (x = -10 ∨ x = -11 ∨ (lev (sch x) = rnk x ∧ 1 ≤ rnk x))) = true := by decide +kernel
theorem sch_0 : lev (sch (-11)) = 0 ∧ lev (sch (-10)) = 0 ∧ sch (-10) = 33 ∧ sch (-11) = 40 := by decide +kernel
theorem sch_33T : sgs.all (fun x => decide (sch x = 33 ↔ x = -10)) = true := by decide +kernel
theorem sch_33 {x : Int32} (h : x ∈ sgs) : sch x = 33 ↔ x = -10 := of_decide_eq_true (List.all_eq_true.mp sch_33T x h)
theorem rnk_6T : sgs.all (fun x => decide ((¬ x = -11 ∧ 6 ≤ rnk x) ↔ x = -10)) = true := by decide +kernel
theorem rnk_10 {x : Int32} (h : x ∈ sgs) : (¬ x = -11 ∧ 6 ≤ rnk x) ↔ x = -10 := of_decide_eq_true (List.all_eq_true.mp rnk_6T x h)
/-- signs are signs -/
def SV (wf : Fl) (h : Nat) : Prop := ∀ k, k < h → wf k ∈ sgs
/-- the class's code and signs -/
def CW (s : Sn) (cf : Fl) (c : Nat) (wf : Fl) (h : Nat) : Prop := s.1 (20, 0, 0) 4 = nI c ∧ (∀ k, k < c → s.1 (23, 0, 0) k = trC (cf k)) ∧ s.1 (20, 0, 0) 5 = nI h ∧ ∀ k, k < h → s.1 (24, 0, 0) k = sch (wf k)
abbrev XC3 : List Rf := [(20, 0, 0), (23, 0, 0), (24, 0, 0)]
theorem CW.pp {s : Sn} {cf wf : Fl} {c h : Nat} (hc : CW s cf c wf (h + 1)) : CW (sI (sI (sI s (20, 0, 0) 5 (nI h)) (23, 0, 0) c (trC (wf h))) (20, 0, 0) 4 (nI (c + 1))) (upd cf c (wf h)) (c + 1) wf h := by
  obtain ⟨h1, h2, h3, h4⟩ := hc
  refine ⟨?_, fun k hk => ?_, ?_, fun k hk => ?_⟩
  · rw [sI_row, upd_eq]
  · rw [sI_nr (by decide), sI_row]
    by_cases e : k = c
    · rw [e, upd_eq, upd_eq]
    · rw [upd_ne e, upd_ne e, sI_nr (by decide)]; exact h2 k (by omega)
  · rw [sI_nk (by decide), sI_nr (by decide), sI_row, upd_eq]
  · rw [sI_nr (by decide), sI_nr (by decide), sI_nr (by decide)]; exact h4 k (by omega)
theorem l2_down {s : Sn} {wf : Fl} {L ls : Int32} (hL : 0 < L) (hx : ∀ x, x ∈ sgs → ¬ x = -10 → ¬ x = -11 → (L ≤ lev (sch x) ↔ ls ≤ rnk x)) : ∀ (h : Nat) (cf : Fl) (c : Nat) (s1 : Sn), CW s1 cf c wf h → SV wf h → NW wf h → TN wf h → c + h ≤ 96 → (∀ q, q ≠ 4 → q ≠ 5 → s1.1 (20, 0, 0) q = s.1 (20, 0, 0) q) → Fr XC3 s s1 → Wp (d + 1) MX2_closeDownTo 5 [some (vR 20 0 0), some (vI L), some (vI (nI h))] [] (hN s1) (Pn fun t => CW t (stl wf ls h cf c).1 (stl wf ls h cf c).2.1 wf (stl wf ls h cf c).2.2 ∧ (∀ q, q ≠ 4 → q ≠ 5 → t.1 (20, 0, 0) q = s.1 (20, 0, 0) q) ∧ Fr XC3 s t) := by
  intro h
  induction h with
  | zero =>
    intro cf c s1 hc hv hw ht hl ho hF
    refine wp_iload_n dX2_closeDownTo_5 rfl rfl ?_
    refine wp_if_le (t := 38) dX2_closeDownTo_6 rfl rfl (fun h6 => ?_) (fun h6 => absurd (by decide) h6)
    refine wp_ret dX2_closeDownTo_38 rfl ?_
    exact ⟨_, rfl, rfl, hc, ho, hF⟩
  | succ h ih =>
    intro cf c s1 hc hv hw ht hl ho hF
    have h10 := ht h rfl
    have hm := hv h (by omega)
    have hiff : (L ≤ lev (sch (wf h))) ↔ (¬ wf h = -11 ∧ ls ≤ rnk (wf h)) := by
      by_cases e : wf h = -11
      · rw [e, sch_0.1]; exact ⟨fun z => absurd hL (Int32.not_lt.mpr z), fun z => absurd rfl z.1⟩
      · rw [hx _ hm h10 e]; exact ⟨fun z => ⟨e, z⟩, fun z => z.2⟩
    refine wp_iload_n dX2_closeDownTo_5 rfl rfl ?_
    refine wp_if_le (t := 38) dX2_closeDownTo_6 rfl rfl (fun h6 => absurd h6 (nI_nle (by omega) (by omega))) (fun h6 => ?_)
    refine wp_aload_n dX2_closeDownTo_9 rfl rfl ?_
    refine wn_callV0d dX2_closeDownTo_10 rRX2_163 (rcv_of o20 rfl) (Nat.le_of_ble_eq_true rfl)  (Nat.le_of_ble_eq_true rfl) rfl (c2_topSign (h := h) (by omega) hc.2.2.1) ?_
    rw [hc.2.2.2 h (by omega)]
    refine wn_callS1d dX2_closeDownTo_13 rRX2_154 (Nat.le_of_ble_eq_true rfl) rfl (Nat.le_of_ble_eq_true rfl) rfl (c2_levelOf) ?_
    refine wp_iload_n dX2_closeDownTo_16 rfl rfl ?_
    refine wp_icmp_lt (t := 38) dX2_closeDownTo_17 rfl rfl (fun h17 => ?_) (fun h17 => ?_)
    · refine wp_ret dX2_closeDownTo_38 rfl ?_
      have hn : ¬ (¬ wf h = -11 ∧ ls ≤ rnk (wf h)) := fun z => absurd (hiff.mpr z) (Int32.not_le.mpr h17)
      refine ⟨_, rfl, rfl, ?_, ho, hF⟩
      rw [stl_n hn]; exact hc
    · refine wp_aload_n dX2_closeDownTo_20 rfl rfl ?_
      refine wp_sipush (v := 20000) dX2_closeDownTo_21 (by decide) rfl ?_
      refine wp_aload_n dX2_closeDownTo_24 rfl rfl ?_
      refine wn_callV0d dX2_closeDownTo_25 rRX2_157 (rcv_of o20 rfl) (Nat.le_of_ble_eq_true rfl)  (Nat.le_of_ble_eq_true rfl) rfl (c2_pop (h := h) (by omega) hc.2.2.1) ?_
      refine wp_iadd dX2_closeDownTo_28 rfl ?_
      rw [hc.2.2.2 h (by omega), sch_c hm (hiff.mp (Int32.not_lt.mp h17)).1]
      refine wn_callV1n dX2_closeDownTo_29 rRX2_160 (rcv_of o20 rfl) (Nat.le_of_ble_eq_true rfl) rfl (Nat.le_of_ble_eq_true rfl) rfl (c2_addCode (h := c) (by omega) (by rw [sI_nk (by decide)]; exact hc.1)) (fun s29 hq29 => ?_)
      subst hq29
      refine wp_iinc (l' := [_, _, some _]) (v := (-1)) dX2_closeDownTo_32 rfl (by decide) rfl rfl ?_
      refine wp_goto (t := 5) dX2_closeDownTo_35 rfl ?_
      have hy := hiff.mp (Int32.not_lt.mp h17)
      rw [m1_sub, nI_pred, stl_y hy]
      have ht2 : TN wf h := fun k hk z => by
        subst hk
        rcases hw k (by omega) z with q | q
        · exact h10 q
        · exact hy.1 q
      refine ih _ _ _ hc.pp (fun k hk => hv k (by omega)) (hw.le (by omega)) ht2 (by omega) (fun q q4 q5 => ?_) (((hF.pt (by decide)).pt (by decide)).pt (by decide))
      rw [sI_nk q4, sI_nr (by decide), sI_nk q5]; exact ho q q4 q5
theorem c2_closeDownTo {s : Sn} {cf wf : Fl} {L ls : Int32} {c h : Nat} (hL : 0 < L) (hx : ∀ x, x ∈ sgs → ¬ x = -10 → ¬ x = -11 → (L ≤ lev (sch x) ↔ ls ≤ rnk x)) (hc : CW s cf c wf h) (hv : SV wf h) (hw : NW wf h) (ht : TN wf h) (hl : c + h ≤ 96) : Ca (d + 1) MX2_closeDownTo [vR 20 0 0, vI L] (hN s) (Pn fun t => CW t (stl wf ls h cf c).1 (stl wf ls h cf c).2.1 wf (stl wf ls h cf c).2.2 ∧ (∀ q, q ≠ 4 → q ≠ 5 → t.1 (20, 0, 0) q = s.1 (20, 0, 0) q) ∧ Fr XC3 s t) := by
  change Wp _ _ 0 [some _, some _, none] [] _ _
  refine wp_aload_n dX2_closeDownTo_0 rfl rfl ?_
  refine wn_getI dX2_closeDownTo_1 fRX2_32 o20 rfl rfl ?_
  rw [hc.2.2.1]
  refine wp_istore_n (l' := [_, _, some _]) dX2_closeDownTo_4 rfl rfl ?_
  exact l2_down hL hx h cf c s hc hv hw ht hl (fun _ _ _ => rfl) Fr.rf
theorem lx_s {g : Int32} (hg : g ∈ sgs) (h10 : ¬ g = -10) (h11 : ¬ g = -11) : ∀ x, x ∈ sgs → ¬ x = -10 → ¬ x = -11 → (lev (sch g) ≤ lev (sch x) ↔ rnk g ≤ rnk x) := fun x hx h1 h2 => by
  have e1 := (of_decide_eq_true (List.all_eq_true.mp sch_l x hx)).resolve_left h1 |>.resolve_left h2
  have e2 := (of_decide_eq_true (List.all_eq_true.mp sch_l g hg)).resolve_left h10 |>.resolve_left h11
  rw [e1.1, e2.1]
theorem lx_0 : ∀ x, x ∈ sgs → ¬ x = -10 → ¬ x = -11 → (1 ≤ lev (sch x) ↔ 0 ≤ rnk x) := fun x hx h1 h2 => by
  have e1 := (of_decide_eq_true (List.all_eq_true.mp sch_l x hx)).resolve_left h1 |>.resolve_left h2
  rw [e1.1]
  exact ⟨fun _ => rnk_0 x, fun _ => e1.2⟩
theorem l2_bangL {s : Sn} {wf : Fl} : ∀ (h : Nat) (cf : Fl) (c : Nat) (s1 : Sn), CW s1 cf c wf h → SV wf h → c + h ≤ 96 → s1.1 (20, 0, 0) 9 = nI (nts wf h) → (∀ q, q ≠ 4 → q ≠ 5 → q ≠ 9 → s1.1 (20, 0, 0) q = s.1 (20, 0, 0) q) → Fr XC3 s s1 → Wp (d + 1) MX2_closeBangs 5 [some (vR 20 0 0), some (vI (nI h))] [] (hN s1) (Pn fun t => CW t (stl wf 6 h cf c).1 (stl wf 6 h cf c).2.1 wf (stl wf 6 h cf c).2.2 ∧ t.1 (20, 0, 0) 9 = nI (nts wf (stl wf 6 h cf c).2.2) ∧ (∀ q, q ≠ 4 → q ≠ 5 → q ≠ 9 → t.1 (20, 0, 0) q = s.1 (20, 0, 0) q) ∧ Fr XC3 s t) := by
  intro h
  induction h with
  | zero =>
    intro cf c s1 hc hv hl h9 ho hF
    refine wp_iload_n dX2_closeBangs_5 rfl rfl ?_
    refine wp_if_le (t := 46) dX2_closeBangs_6 rfl rfl (fun h6 => ?_) (fun h6 => absurd (by decide) h6)
    refine wp_ret dX2_closeBangs_46 rfl ?_
    exact ⟨_, rfl, rfl, hc, h9, ho, hF⟩
  | succ h ih =>
    intro cf c s1 hc hv hl h9 ho hF
    have hm := hv h (by omega)
    refine wp_iload_n dX2_closeBangs_5 rfl rfl ?_
    refine wp_if_le (t := 46) dX2_closeBangs_6 rfl rfl (fun h6 => absurd h6 (nI_nle (by omega) (by omega))) (fun h6 => ?_)
    refine wp_aload_n dX2_closeBangs_9 rfl rfl ?_
    refine wn_callV0d dX2_closeBangs_10 rRX2_163 (rcv_of o20 rfl) (Nat.le_of_ble_eq_true rfl)  (Nat.le_of_ble_eq_true rfl) rfl (c2_topSign (h := h) (by omega) hc.2.2.1) ?_
    rw [hc.2.2.2 h (by omega)]
    refine wp_bipush (v := 33) dX2_closeBangs_13 (by decide) rfl ?_
    refine wp_icmp_ne (t := 46) dX2_closeBangs_15 rfl rfl (fun h15 => ?_) (fun h15 => ?_)
    · refine wp_ret dX2_closeBangs_46 rfl ?_
      have hn : ¬ (¬ wf h = -11 ∧ 6 ≤ rnk (wf h)) := fun z => h15 ((sch_33 hm).mpr ((rnk_10 hm).mp z))
      refine ⟨_, rfl, rfl, ?_, ?_, ho, hF⟩
      · rw [stl_n hn]; exact hc
      · rw [stl_n hn]; exact h9
    · refine wp_aload_n dX2_closeBangs_18 rfl rfl ?_
      refine wp_sipush (v := 20000) dX2_closeBangs_19 (by decide) rfl ?_
      refine wp_aload_n dX2_closeBangs_22 rfl rfl ?_
      refine wn_callV0d dX2_closeBangs_23 rRX2_157 (rcv_of o20 rfl) (Nat.le_of_ble_eq_true rfl)  (Nat.le_of_ble_eq_true rfl) rfl (c2_pop (h := h) (by omega) hc.2.2.1) ?_
      refine wp_iadd dX2_closeBangs_26 rfl ?_
      rw [hc.2.2.2 h (by omega), sch_c hm ((rnk_10 hm).mpr ((sch_33 hm).mp h15)).1]
      refine wn_callV1n dX2_closeBangs_27 rRX2_160 (rcv_of o20 rfl) (Nat.le_of_ble_eq_true rfl) rfl (Nat.le_of_ble_eq_true rfl) rfl (c2_addCode (h := c) (by omega) (by rw [sI_nk (by decide)]; exact hc.1)) (fun s27 hq27 => ?_)
      subst hq27
      refine wp_aload_n dX2_closeBangs_30 rfl rfl ?_
      refine wp_dup dX2_closeBangs_31 rfl rfl ?_
      refine wn_getI dX2_closeBangs_32 fRX2_44 o20 rfl rfl ?_
      rw [sI_nk (by decide), sI_nr (by decide), sI_nk (by decide)]
      refine wp_iconst (v := 1) dX2_closeBangs_35 (by decide) rfl ?_
      refine wp_isub dX2_closeBangs_36 rfl ?_
      refine wn_putI dX2_closeBangs_37 fRX2_44 o20 rfl rfl rfl ?_
      refine wp_iinc (l' := [_, some _]) (v := (-1)) dX2_closeBangs_40 rfl (by decide) rfl rfl ?_
      refine wp_goto (t := 5) dX2_closeBangs_43 rfl ?_
      have h10 := (sch_33 hm).mp h15
      have hy := (rnk_10 hm).mpr h10
      rw [m1_sub, nI_pred, stl_y hy]
      have hb : nts wf (h + 1) = nts wf h + 1 := by rw [nts_s, if_pos h10]
      refine ih _ _ _ ?_ (fun k hk => hv k (by omega)) (by omega) ?_ (fun q q4 q5 q9 => ?_) ((((hF.pt (by decide)).pt (by decide)).pt (by decide)).pt (by decide))
      · obtain ⟨b1, b2, b3, b4⟩ := hc.pp
        exact ⟨by rw [sI_nk (by decide)]; exact b1, fun k hk => by rw [sI_nr (by decide)]; exact b2 k hk, by rw [sI_nk (by decide)]; exact b3, fun k hk => by rw [sI_nr (by decide)]; exact b4 k hk⟩
      · rw [sI_row, upd_eq, h9, hb, nI_pred]
      · rw [sI_nk q9, sI_nk q4, sI_nr (by decide), sI_nk q5]; exact ho q q4 q5 q9
theorem l2_bang {s : Sn} {wf : Fl} (h : Nat) (cf : Fl) (c : Nat) (s1 : Sn) (hc : CW s1 cf c wf h) (hv : SV wf h) (hl : c + h ≤ 96) (h9 : s1.1 (20, 0, 0) 9 = nI (nts wf h)) (ho : ∀ q, q ≠ 4 → q ≠ 5 → q ≠ 9 → s1.1 (20, 0, 0) q = s.1 (20, 0, 0) q) (hF : Fr XC3 s s1) : Ca (d + 1) MX2_closeBangs [vR 20 0 0] (hN s1) (Pn fun t => CW t (stl wf 6 h cf c).1 (stl wf 6 h cf c).2.1 wf (stl wf 6 h cf c).2.2 ∧ t.1 (20, 0, 0) 9 = nI (nts wf (stl wf 6 h cf c).2.2) ∧ (∀ q, q ≠ 4 → q ≠ 5 → q ≠ 9 → t.1 (20, 0, 0) q = s.1 (20, 0, 0) q) ∧ Fr XC3 s t) := by
  change Wp _ _ 0 [some _, none] [] _ _
  refine wp_aload_n dX2_closeBangs_0 rfl rfl ?_
  refine wn_getI dX2_closeBangs_1 fRX2_32 o20 rfl rfl ?_
  rw [hc.2.2.1]
  refine wp_istore_n (l' := [_, some _]) dX2_closeBangs_4 rfl rfl ?_
  exact l2_bangL h cf c s1 hc hv hl h9 ho hF
end
