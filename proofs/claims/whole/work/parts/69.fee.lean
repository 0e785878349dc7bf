/-! THE PURE PART, 50: fee, fine, why, textTold, count -/
section
variable {d i j : Nat}
theorem evl_cong2 {fa fb : Int32 → Int32} (h : ∀ i : Int32, 0 ≤ i → i < 2 → fa i = fb i) : ∀ (cs st : List Int32) (n : Nat), wfd cs n = true → (∀ c, c ∈ cs → c < 10002) → evl fa cs st = evl fb cs st := by
  intro cs
  induction cs with
  | nil => intro st n _ _; rfl
  | cons c cs ih =>
    intro st n hw hl
    have hl2 : ∀ c, c ∈ cs → c < 10002 := fun z hz => hl z (List.mem_cons_of_mem _ hz)
    have hlc : c < 10002 := hl c List.mem_cons_self
    rw [wfd] at hw
    rw [evl, evl]
    by_cases h0 : 0 ≤ c
    · rw [if_pos h0] at hw ⊢
      rw [if_pos h0]
      simp only [Bool.and_eq_true, decide_eq_true_eq] at hw
      by_cases h1 : c < 10000
      · rw [if_pos h1, if_pos h1]; exact ih _ _ hw.2.2 hl2
      · rw [if_neg h1, if_neg h1]
        have h10 := Int32.not_lt.mp h1
        obtain ⟨g1, g2⟩ := subI10 h10 hw.2.1
        rw [h (c - 10000) g1 (by
          obtain ⟨k, hk, e⟩ := nI_of (fun z => absurd (Int32.not_lt.mpr g1) (fun q => q z))
          rw [e] at g2 ⊢
          rw [nI_clamp hk] at g2
          have h3 := hlc
          have hc : c = nI (k + 10000) := by
            rw [← nI_add, ← e, show nI 10000 = (10000 : Int32) from rfl, Int32.sub_add_cancel]
          rw [hc] at h3
          have h5 := (nI_ltI (by omega) (by omega)).mp (show nI (k + 10000) < nI 10002 from h3)
          exact show nI k < nI 2 from (nI_ltI hk (by omega)).mpr (by omega))]
        exact ih _ _ hw.2.2 hl2
    · rw [if_neg h0] at hw ⊢
      rw [if_neg h0]
      by_cases h1 : c = -10
      · rw [if_pos h1] at hw ⊢
        rw [if_pos h1]
        simp only [Bool.and_eq_true, decide_eq_true_eq] at hw
        exact ih _ _ hw.2 hl2
      · rw [if_neg h1] at hw ⊢
        rw [if_neg h1]
        simp only [Bool.and_eq_true, decide_eq_true_eq] at hw
        exact ih _ _ hw.2.2 hl2
theorem i2 {i : Int32} (h0 : 0 ≤ i) (h3 : i < 2) : i = 0 ∨ i = 1 := by
  obtain ⟨k, hk, rfl⟩ := nI_of (Int32.not_lt.mpr h0)
  have := (nI_ltI hk (by omega)).mp (show nI k < nI 2 from h3)
  have : k = 0 ∨ k = 1 := by omega
  rcases this with rfl | rfl
  · exact Or.inl rfl
  · exact Or.inr rfl
/-- a text of another key than the first has no third name -/
def N2 (f : Fl) (c8 : Nat) : Prop := ∀ t, t < c8 → ¬ f (105 + 2 * t) / 1000 = 0 → ∀ k, k < nco f t → f (133 + 96 * t + k) < 10002
theorem evT_2 {f : Fl} {c8 t n : Nat} {key : Int32} {fa fb : Int32 → Int32} (hN2 : N2 f c8) (ho : cts f key c8 = some t) (hk : ¬ key = 0) (hn : n ≤ 96) (hn2 : rm (f (105 + 2 * t)) 1000 = nI n) (hW : wfd (cod f t n) 0 = true) (h : ∀ i : Int32, 0 ≤ i → i < 2 → fa i = fb i) : (evl fa (cod f t n) []).headD 0 = evT f t fb := by
  have e : nco f t = n := by unfold nco; rw [hn2, nI_clamp (by omega)]
  have hc := cts_lt ho
  rw [evT, e]
  congr 1
  refine evl_cong2 h _ _ 0 hW (fun c hc2 => ?_)
  obtain ⟨k, hk2, rfl⟩ := List.mem_map.mp hc2
  exact hN2 t hc.1 (by rw [hc.2]; exact hk) k (by rw [e]; exact List.mem_range.mp hk2)
theorem lr_give {s : Sn} {f : Fl} {t n : Nat} (hLR : LR s n f t) (hT : WT f t) : ∃ m, m ≤ 96 ∧ s.2.2.1.2 n = m ∧ (∀ k, k < m → s.1 (35, n, 0) k = trC (f (133 + 96 * t + k))) ∧ wfd (cdl (fun k => f (133 + 96 * t + k)) m) 0 = true ∧ ∀ fa, (evl fa (cdl (fun k => f (133 + 96 * t + k)) m) []).headD 0 = evT f t fa := by
  obtain ⟨_, _, m, hm96, hrm, hlen, hcf⟩ := hLR
  obtain ⟨n2, hn2, hrm2, hwf⟩ := hT
  have hnm : n2 = m := by rw [hrm] at hrm2; exact ((nI_eq (by omega) (by omega)).mp hrm2).symm
  subst hnm
  refine ⟨n2, hm96, hlen, hcf, hwf, fun fa => ?_⟩
  have e1 : nco f t = n2 := by unfold nco; rw [hrm, nI_clamp (by omega)]
  unfold evT
  rw [e1]
  rfl
def txA (f : Fl) (c8 : Nat) (key a b : Int32) : Int32 := match cts f key c8 with
  | none => a
  | some t => evT f t (fa3 a b 0)
theorem txA_n {f : Fl} {c8 : Nat} {key a b : Int32} (h : cts f key c8 = none) : txA f c8 key a b = a := by unfold txA; rw [h]
theorem txA_s {f : Fl} {c8 t : Nat} {key a b : Int32} (h : cts f key c8 = some t) : txA f c8 key a b = evT f t (fa3 a b 0) := by unfold txA; rw [h]
theorem fx_now {s : Sn} {k : Nat} {v : Int32} : (sI s (41, 11, 0) k v).1 (41, 0, 0) = s.1 (41, 0, 0) := sI_nr (by decide)
theorem c8_fee {s : Sn} {c c8 : Nat} (hW : Wq (s.1 (41, 0, 0)) c c8) (hN2 : N2 (s.1 (41, 0, 0)) c8) : Ca (d + 2) MX8_fee [vR 40 0 0] (hN s) (Pv fun z t => z = txA (s.1 (41, 0, 0)) c8 1 ((s.1 (41, 0, 0)) 6) ((s.1 (41, 0, 0)) 2) ∧ Fr [(41, 10, 0), (41, 11, 0)] s t) := by
  change Wp _ _ 0 [some _, none] [] _ _
  refine wp_aload_n dX8_fee_0 rfl rfl ?_
  refine wp_iconst (v := 1) dX8_fee_1 (by decide) rfl ?_
  refine wn_callV1d dX8_fee_2 rRX8_89 (rcv_of o40 rfl) (Nat.le_of_ble_eq_true rfl) rfl (Nat.le_of_ble_eq_true rfl) rfl (c8_counts (c := c8) hW.2.2.2.1 hW.2.2.1) ?_
  cases ho : cts (s.1 (41, 0, 0)) 1 c8 with
  | none =>
    refine wp_istore_n (l' := [_, some _]) dX8_fee_5 rfl rfl ?_
    refine wp_aload_n dX8_fee_6 rfl rfl ?_
    refine wn_getR dX8_fee_7 fRX8_45 o40 rfl rfl rfl ?_
    refine wp_iconst (v := 0) dX8_fee_10 (by decide) rfl ?_
    refine wp_aload_n dX8_fee_11 rfl rfl ?_
    refine wn_getR dX8_fee_12 fRX8_9 o40 rfl rfl rfl ?_
    refine wp_bipush (v := 6) dX8_fee_15 (by decide) rfl ?_
    refine wn_iald (j := 6) dX8_fee_17 (o41 0 rfl) rfl ⟨by decide, by decide⟩ (Nat.le_of_ble_eq_true rfl) rfl ?_
    refine wn_iast (j := 0) dX8_fee_18 (o41 11 rfl) rfl ⟨by decide, by decide⟩ (Nat.le_of_ble_eq_true rfl) rfl ?_
    refine wp_aload_n dX8_fee_19 rfl rfl ?_
    refine wn_getR dX8_fee_20 fRX8_45 o40 rfl rfl rfl ?_
    refine wp_iconst (v := 1) dX8_fee_23 (by decide) rfl ?_
    refine wp_aload_n dX8_fee_24 rfl rfl ?_
    refine wn_getR dX8_fee_25 fRX8_9 o40 rfl rfl rfl ?_
    refine wp_iconst (v := 2) dX8_fee_28 (by decide) rfl ?_
    refine wn_iald (j := 2) dX8_fee_29 (o41 0 rfl) rfl ⟨by decide, by decide⟩ (Nat.le_of_ble_eq_true rfl) rfl ?_
    refine wn_iast (j := 1) dX8_fee_30 (o41 11 rfl) rfl ⟨by decide, by decide⟩ (Nat.le_of_ble_eq_true rfl) rfl ?_
    refine wp_iload_n dX8_fee_31 rfl rfl ?_
    refine wp_if_ge (t := 45) dX8_fee_32 rfl rfl (fun h32 => absurd h32 (by decide)) (fun h32 => ?_)
    refine wp_aload_n dX8_fee_35 rfl rfl ?_
    refine wn_getR dX8_fee_36 fRX8_9 o40 rfl rfl rfl ?_
    refine wp_bipush (v := 6) dX8_fee_39 (by decide) rfl ?_
    refine wn_iald (j := 6) dX8_fee_41 (o41 0 rfl) rfl ⟨by decide, by decide⟩ (Nat.le_of_ble_eq_true rfl) rfl ?_
    refine wp_goto (t := 50) dX8_fee_42 rfl ?_
    refine wp_iret dX8_fee_50 rfl rfl ?_
    refine ⟨_, _, rfl, rfl, ?_, (Fr.rf.pt (by decide)).pt (by decide)⟩
    rw [txA_n ho]
    all_goals simp only [fx_now]
  | some t =>
    obtain ⟨htc, _⟩ := cts_lt ho
    have hc8 := hW.2.2.2.1
    obtain ⟨n, hn, hn2, hW2⟩ := hW.2.2.2.2.1 t htc
    rw [show oI (some t) = nI t from rfl]
    refine wp_istore_n (l' := [_, some _]) dX8_fee_5 rfl rfl ?_
    refine wp_aload_n dX8_fee_6 rfl rfl ?_
    refine wn_getR dX8_fee_7 fRX8_45 o40 rfl rfl rfl ?_
    refine wp_iconst (v := 0) dX8_fee_10 (by decide) rfl ?_
    refine wp_aload_n dX8_fee_11 rfl rfl ?_
    refine wn_getR dX8_fee_12 fRX8_9 o40 rfl rfl rfl ?_
    refine wp_bipush (v := 6) dX8_fee_15 (by decide) rfl ?_
    refine wn_iald (j := 6) dX8_fee_17 (o41 0 rfl) rfl ⟨by decide, by decide⟩ (Nat.le_of_ble_eq_true rfl) rfl ?_
    refine wn_iast (j := 0) dX8_fee_18 (o41 11 rfl) rfl ⟨by decide, by decide⟩ (Nat.le_of_ble_eq_true rfl) rfl ?_
    refine wp_aload_n dX8_fee_19 rfl rfl ?_
    refine wn_getR dX8_fee_20 fRX8_45 o40 rfl rfl rfl ?_
    refine wp_iconst (v := 1) dX8_fee_23 (by decide) rfl ?_
    refine wp_aload_n dX8_fee_24 rfl rfl ?_
    refine wn_getR dX8_fee_25 fRX8_9 o40 rfl rfl rfl ?_
    refine wp_iconst (v := 2) dX8_fee_28 (by decide) rfl ?_
    refine wn_iald (j := 2) dX8_fee_29 (o41 0 rfl) rfl ⟨by decide, by decide⟩ (Nat.le_of_ble_eq_true rfl) rfl ?_
    refine wn_iast (j := 1) dX8_fee_30 (o41 11 rfl) rfl ⟨by decide, by decide⟩ (Nat.le_of_ble_eq_true rfl) rfl ?_
    refine wp_iload_n dX8_fee_31 rfl rfl ?_
    refine wp_if_ge (t := 45) dX8_fee_32 rfl rfl (fun h32 => ?_) (fun h32 => absurd (nI_pos' (by omega)) h32)
    refine wp_aload_n dX8_fee_45 rfl rfl ?_
    refine wp_iload_n dX8_fee_46 rfl rfl ?_
    refine wn_callV1i dX8_fee_47 rRX8_97 (rcv_of o40 rfl) (Nat.le_of_ble_eq_true rfl) rfl (Nat.le_of_ble_eq_true rfl) rfl (c8_works (t := t) (n := n) (by omega) hn (by simp only [fx_now]; exact hn2) (by simp only [fx_now]; exact hW2)) (fun x47 s47 hq47 => ?_)
    obtain ⟨e9, hF9⟩ := hq47
    simp only [fx_now] at e9
    refine wp_iret dX8_fee_50 rfl rfl ?_
    refine ⟨_, _, rfl, rfl, ?_, ((Fr.rf.pt (by decide)).pt (by decide)).tr (hF9.wd (by decide))⟩
    rw [e9, txA_s ho]
    refine evT_2 hN2 ho (by decide) hn hn2 hW2 (fun i g1 g2 => ?_)
    rcases i2 g1 g2 with rfl | rfl <;> rfl
def fiA (f : Fl) (c c8 : Nat) (x : Int32) : Int32 := if 0 ≤ x ∧ x ≤ nI c - 1 then txA f c8 2 (f (45 + 5 * x.toNatClampNeg + 1)) (f (45 + 5 * x.toNatClampNeg + 2)) else -1000000001
theorem fiA_y {f : Fl} {c c8 g : Nat} (h : 0 ≤ nI g ∧ nI g ≤ nI c - 1) (hg : g < 12) : fiA f c c8 (nI g) = txA f c8 2 (f (45 + 5 * g + 1)) (f (45 + 5 * g + 2)) := by
  unfold fiA
  rw [if_pos h, nI_clamp (by omega)]
theorem c8_fine {s : Sn} {c c8 : Nat} {x : Int32} (hW : Wq (s.1 (41, 0, 0)) c c8) (hN2 : N2 (s.1 (41, 0, 0)) c8) : Ca (d + 2) MX8_fine [vR 40 0 0, vI x] (hN s) (Pv fun z t => z = fiA (s.1 (41, 0, 0)) c c8 x ∧ Fr [(41, 10, 0), (41, 11, 0)] s t) := by
  change Wp _ _ 0 [some _, some _, none] [] _ _
  have hc := hW.2.1
  refine wp_aload_n dX8_fine_0 rfl rfl ?_
  refine wp_iload_n dX8_fine_1 rfl rfl ?_
  refine wn_callV1d dX8_fine_2 rRX8_103 (rcv_of o40 rfl) (Nat.le_of_ble_eq_true rfl) rfl (Nat.le_of_ble_eq_true rfl) rfl (c8_isLog) ?_
  rw [hW.1]
  refine wp_if_ne_b (t := 11) dX8_fine_5 rfl rfl (fun h5 => ?_) (fun h5 => ?_)
  · obtain ⟨g, hg, rfl⟩ := log_nat hc h5
    have hg12 : g < 12 := by omega
    refine wp_aload_n dX8_fine_11 rfl rfl ?_
    refine wp_iconst (v := 2) dX8_fine_12 (by decide) rfl ?_
    refine wn_callV1d dX8_fine_13 rRX8_89 (rcv_of o40 rfl) (Nat.le_of_ble_eq_true rfl) rfl (Nat.le_of_ble_eq_true rfl) rfl (c8_counts (c := c8) hW.2.2.2.1 hW.2.2.1) ?_
    cases ho : cts (s.1 (41, 0, 0)) 2 c8 with
    | none =>
      refine wp_istore_n (l' := [_, _, some _]) dX8_fine_16 rfl rfl ?_
      refine wp_aload_n dX8_fine_17 rfl rfl ?_
      refine wn_getR dX8_fine_18 fRX8_45 o40 rfl rfl rfl ?_
      refine wp_iconst (v := 0) dX8_fine_21 (by decide) rfl ?_
      refine wp_aload_n dX8_fine_22 rfl rfl ?_
      refine wp_iload_n dX8_fine_23 rfl rfl ?_
      refine wp_iconst (v := 1) dX8_fine_24 (by decide) rfl ?_
      refine wn_callV2d dX8_fine_25 rRX8_93 (rcv_of o40 rfl) (Nat.le_of_ble_eq_true rfl) rfl rfl (Nat.le_of_ble_eq_true rfl) rfl (c8_of (j := g) (w := 1) hg12 (by decide)) ?_
      refine wn_iast (j := 0) dX8_fine_28 (o41 11 rfl) rfl ⟨by decide, by decide⟩ (Nat.le_of_ble_eq_true rfl) rfl ?_
      refine wp_aload_n dX8_fine_29 rfl rfl ?_
      refine wn_getR dX8_fine_30 fRX8_45 o40 rfl rfl rfl ?_
      refine wp_iconst (v := 1) dX8_fine_33 (by decide) rfl ?_
      refine wp_aload_n dX8_fine_34 rfl rfl ?_
      refine wp_iload_n dX8_fine_35 rfl rfl ?_
      refine wp_iconst (v := 2) dX8_fine_36 (by decide) rfl ?_
      refine wn_callV2d dX8_fine_37 rRX8_93 (rcv_of o40 rfl) (Nat.le_of_ble_eq_true rfl) rfl rfl (Nat.le_of_ble_eq_true rfl) rfl (c8_of (j := g) (w := 2) hg12 (by decide)) ?_
      simp only [fx_now]
      refine wn_iast (j := 1) dX8_fine_40 (o41 11 rfl) rfl ⟨by decide, by decide⟩ (Nat.le_of_ble_eq_true rfl) rfl ?_
      refine wp_iload_n dX8_fine_41 rfl rfl ?_
      refine wp_if_ge (t := 54) dX8_fine_42 rfl rfl (fun h42 => absurd h42 (by decide)) (fun h42 => ?_)
      refine wp_aload_n dX8_fine_45 rfl rfl ?_
      refine wp_iload_n dX8_fine_46 rfl rfl ?_
      refine wp_iconst (v := 1) dX8_fine_47 (by decide) rfl ?_
      refine wn_callV2d dX8_fine_48 rRX8_93 (rcv_of o40 rfl) (Nat.le_of_ble_eq_true rfl) rfl rfl (Nat.le_of_ble_eq_true rfl) rfl (c8_of (j := g) (w := 1) hg12 (by decide)) ?_
      simp only [fx_now]
      refine wp_goto (t := 59) dX8_fine_51 rfl ?_
      refine wp_iret dX8_fine_59 rfl rfl ?_
      refine ⟨_, _, rfl, rfl, ?_, (Fr.rf.pt (by decide)).pt (by decide)⟩
      rw [fiA_y h5 hg12, txA_n ho]
      all_goals simp only [fx_now]
    | some t =>
      obtain ⟨htc, _⟩ := cts_lt ho
      have hc8 := hW.2.2.2.1
      obtain ⟨n, hn, hn2, hW2⟩ := hW.2.2.2.2.1 t htc
      rw [show oI (some t) = nI t from rfl]
      refine wp_istore_n (l' := [_, _, some _]) dX8_fine_16 rfl rfl ?_
      refine wp_aload_n dX8_fine_17 rfl rfl ?_
      refine wn_getR dX8_fine_18 fRX8_45 o40 rfl rfl rfl ?_
      refine wp_iconst (v := 0) dX8_fine_21 (by decide) rfl ?_
      refine wp_aload_n dX8_fine_22 rfl rfl ?_
      refine wp_iload_n dX8_fine_23 rfl rfl ?_
      refine wp_iconst (v := 1) dX8_fine_24 (by decide) rfl ?_
      refine wn_callV2d dX8_fine_25 rRX8_93 (rcv_of o40 rfl) (Nat.le_of_ble_eq_true rfl) rfl rfl (Nat.le_of_ble_eq_true rfl) rfl (c8_of (j := g) (w := 1) hg12 (by decide)) ?_
      refine wn_iast (j := 0) dX8_fine_28 (o41 11 rfl) rfl ⟨by decide, by decide⟩ (Nat.le_of_ble_eq_true rfl) rfl ?_
      refine wp_aload_n dX8_fine_29 rfl rfl ?_
      refine wn_getR dX8_fine_30 fRX8_45 o40 rfl rfl rfl ?_
      refine wp_iconst (v := 1) dX8_fine_33 (by decide) rfl ?_
      refine wp_aload_n dX8_fine_34 rfl rfl ?_
      refine wp_iload_n dX8_fine_35 rfl rfl ?_
      refine wp_iconst (v := 2) dX8_fine_36 (by decide) rfl ?_
      refine wn_callV2d dX8_fine_37 rRX8_93 (rcv_of o40 rfl) (Nat.le_of_ble_eq_true rfl) rfl rfl (Nat.le_of_ble_eq_true rfl) rfl (c8_of (j := g) (w := 2) hg12 (by decide)) ?_
      simp only [fx_now]
      refine wn_iast (j := 1) dX8_fine_40 (o41 11 rfl) rfl ⟨by decide, by decide⟩ (Nat.le_of_ble_eq_true rfl) rfl ?_
      refine wp_iload_n dX8_fine_41 rfl rfl ?_
      refine wp_if_ge (t := 54) dX8_fine_42 rfl rfl (fun h42 => ?_) (fun h42 => absurd (nI_pos' (by omega)) h42)
      refine wp_aload_n dX8_fine_54 rfl rfl ?_
      refine wp_iload_n dX8_fine_55 rfl rfl ?_
      refine wn_callV1i dX8_fine_56 rRX8_97 (rcv_of o40 rfl) (Nat.le_of_ble_eq_true rfl) rfl (Nat.le_of_ble_eq_true rfl) rfl (c8_works (t := t) (n := n) (by omega) hn (by simp only [fx_now]; exact hn2) (by simp only [fx_now]; exact hW2)) (fun x56 s56 hq56 => ?_)
      obtain ⟨e9, hF9⟩ := hq56
      simp only [fx_now] at e9
      refine wp_iret dX8_fine_59 rfl rfl ?_
      refine ⟨_, _, rfl, rfl, ?_, ((Fr.rf.pt (by decide)).pt (by decide)).tr (hF9.wd (by decide))⟩
      rw [e9, fiA_y h5 hg12, txA_s ho]
      refine evT_2 hN2 ho (by decide) hn hn2 hW2 (fun i g1 g2 => ?_)
      rcases i2 g1 g2 with rfl | rfl <;> rfl
  · refine wp_ldc dX8_fine_8 kRX8_83 rfl ?_
    refine wp_iret dX8_fine_10 rfl rfl ?_
    exact ⟨_, _, rfl, rfl, (if_neg h5).symm, Fr.rf⟩
theorem c7_fee {s : Sn} {f : Fl} {c c8 : Nat} (hV : RV s 0 f c) (hW : Wr f c c8) (hL : LwR s 0 f c8) : Ca (d + 3) MX7_fee [vR 10 0 0] (hN s) (Pv fun z t => z = txA f c8 1 (f 6) (f 2) ∧ FQ X36 s t) := by
  change Wp _ _ 0 [some _, none] [] _ _
  refine wp_aload_n dX7_fee_0 rfl rfl ?_
  refine wn_getR dX7_fee_1 fRX7_10 o10 rfl rfl rfl ?_
  refine wp_iconst (v := 1) dX7_fee_4 (by decide) rfl ?_
  refine wn_callV1r dX7_fee_5 rRX7_101 (rcv_of (o11 (by decide)) rfl) (Nat.le_of_ble_eq_true rfl) rfl (Nat.le_of_ble_eq_true rfl) rfl (c3_lawFor (f := f) (c8 := c8) (by decide) ((hV.1.sc 8 (by decide)).trans hW.1.2.2.1) hW.1.2.2.2.1 hL) (fun x5 s5 hq5 => ?_)
  obtain ⟨hLW, eLW⟩ := hq5
  rw [eLW]
  rcases hLW with ⟨hno, rfl⟩ | ⟨t, n, ho, hn, rfl, hLR⟩
  · refine wp_astore_n (l' := [_, some _]) dX7_fee_8 rfl rfl ?_
    refine wp_aload_n dX7_fee_9 rfl rfl ?_
    refine wp_ifnonnullN dX7_fee_10 rfl ?_
    refine wp_aload_n dX7_fee_13 rfl rfl ?_
    refine wn_getR dX7_fee_14 fRX7_10 o10 rfl rfl rfl ?_
    refine wn_getI dX7_fee_17 fRX7_180 (o11 (by decide)) rfl rfl ?_
    refine wp_goto (t := 42) dX7_fee_20 rfl ?_
    refine wp_iret dX7_fee_42 rfl rfl ?_
    refine ⟨_, _, rfl, rfl, ?_, FQ.rf⟩
    rw [txA_n hno]
    exact hV.1.sc 6 (by decide)
  · obtain ⟨m, hm96, hlen, hcf, hwf, hev⟩ := lr_give hLR (hW.1.2.2.2.2.1 t (cts_lt ho).1)
    refine wp_astore_n (l' := [_, some _]) dX7_fee_8 rfl rfl ?_
    refine wp_aload_n dX7_fee_9 rfl rfl ?_
    refine wp_ifnonnullS (t := 23) dX7_fee_10 (Nat.le_of_ble_eq_true rfl) rfl ?_
    refine wp_aload_n dX7_fee_23 rfl rfl ?_
    refine wp_aload_n dX7_fee_24 rfl rfl ?_
    refine wn_getR dX7_fee_25 fRX7_10 o10 rfl rfl rfl ?_
    refine wn_getI dX7_fee_28 fRX7_180 (o11 (by decide)) rfl rfl ?_
    refine wp_aload_n dX7_fee_31 rfl rfl ?_
    refine wn_getR dX7_fee_32 fRX7_10 o10 rfl rfl rfl ?_
    refine wn_getI dX7_fee_35 fRX7_164 (o11 (by decide)) rfl rfl ?_
    refine wp_iconst (v := 0) dX7_fee_38 (by decide) rfl ?_
    refine wn_callV3i dX7_fee_39 rRX7_215 (rcv_of (o34 hn) rfl) (Nat.le_of_ble_eq_true rfl) rfl rfl rfl (Nat.le_of_ble_eq_true rfl) rfl (c0_give (cf := fun k => f (133 + 96 * t + k)) hn hlen hm96 hcf hwf) (fun x39 s39 hq39 => ?_)
    obtain ⟨e9, hF9⟩ := hq39
    rw [hev] at e9
    refine wp_iret dX7_fee_42 rfl rfl ?_
    refine ⟨_, _, rfl, rfl, ?_, hF9.fq (fun r hr => by rw [List.mem_singleton.mp hr]; rfl)⟩
    rw [e9, txA_s ho, show s.1 (11, 0, 0) 12 = f 6 from hV.1.sc 6 (by decide), show s.1 (11, 0, 0) 14 = f 2 from hV.1.sc 2 (by decide)]
theorem c7_fine {s : Sn} {f : Fl} {c c8 : Nat} {x : Int32} (hV : RV s 0 f c) (hW : Wr f c c8) (hL : LwR s 0 f c8) : Ca (d + 3) MX7_fine [vR 10 0 0, vI x] (hN s) (Pv fun z t => z = fiA f c c8 x ∧ FQ X36 s t) := by
  change Wp _ _ 0 [some _, some _, none, none] [] _ _
  have hc := hV.2.2.2
  have hlc : s.1 (11, 0, 0) 6 = nI c := (hV.1.sc 1 (by decide)).trans hV.2.2.1
  have hcn : cn f = c := by unfold cn; rw [hV.2.2.1, nI_clamp (by omega)]
  refine wp_aload_n dX7_fine_0 rfl rfl ?_
  refine wn_getR dX7_fine_1 fRX7_10 o10 rfl rfl rfl ?_
  refine wp_iload_n dX7_fine_4 rfl rfl ?_
  refine wn_callV1d dX7_fine_5 rRX7_77 (rcv_of (o11 (by decide)) rfl) (Nat.le_of_ble_eq_true rfl) rfl (Nat.le_of_ble_eq_true rfl) rfl (c3_hasLog (by decide)) ?_
  refine wp_if_ne_b (t := 14) dX7_fine_8 rfl rfl (fun h8 => ?_) (fun h8 => ?_)
  · obtain ⟨g, hg, rfl⟩ := log_nat hc (by rw [← hlc]; exact h8.1)
    have hg12 : g < 12 := by omega
    refine wp_aload_n dX7_fine_14 rfl rfl ?_
    refine wn_getR dX7_fine_15 fRX7_10 o10 rfl rfl rfl ?_
    refine wn_getR dX7_fine_18 fRX7_80 (o11 (by decide)) rfl rfl rfl ?_
    refine wp_iload_n dX7_fine_21 rfl rfl ?_
    refine wn_aald13 dX7_fine_22 (by decide) (nIx rfl (by omega)) hg12 rfl ?_
    refine wp_astore_n (l' := [_, _, some _, _]) dX7_fine_23 rfl rfl ?_
    refine wp_aload_n dX7_fine_24 rfl rfl ?_
    refine wn_getR dX7_fine_25 fRX7_10 o10 rfl rfl rfl ?_
    refine wp_iconst (v := 2) dX7_fine_28 (by decide) rfl ?_
    refine wn_callV1r dX7_fine_29 rRX7_101 (rcv_of (o11 (by decide)) rfl) (Nat.le_of_ble_eq_true rfl) rfl (Nat.le_of_ble_eq_true rfl) rfl (c3_lawFor (f := f) (c8 := c8) (by decide) ((hV.1.sc 8 (by decide)).trans hW.1.2.2.1) hW.1.2.2.2.1 hL) (fun x29 s29 hq29 => ?_)
    obtain ⟨hLW, eLW⟩ := hq29
    rw [eLW]
    rcases hLW with ⟨hno, rfl⟩ | ⟨t, n, ho, hn, rfl, hLR⟩
    · refine wp_astore_n (l' := [_, _, _, some _]) dX7_fine_32 rfl rfl ?_
      refine wp_aload_n dX7_fine_33 rfl rfl ?_
      refine wp_ifnonnullN dX7_fine_34 rfl ?_
      refine wp_aload_n dX7_fine_37 rfl rfl ?_
      refine wn_getI dX7_fine_38 fRX7_89 (o12 (by decide) hg12) rfl rfl ?_
      refine wp_goto (t := 57) dX7_fine_41 rfl ?_
      refine wp_iret dX7_fine_57 rfl rfl ?_
      refine ⟨_, _, rfl, rfl, ?_, FQ.rf⟩
      rw [fiA_y (nat_log hc hg) hg12, txA_n hno]
      exact hV.1.lg (by omega) hg12 (by decide)
    · obtain ⟨m, hm96, hlen, hcf, hwf, hev⟩ := lr_give hLR (hW.1.2.2.2.2.1 t (cts_lt ho).1)
      refine wp_astore_n (l' := [_, _, _, some _]) dX7_fine_32 rfl rfl ?_
      refine wp_aload_n dX7_fine_33 rfl rfl ?_
      refine wp_ifnonnullS (t := 44) dX7_fine_34 (Nat.le_of_ble_eq_true rfl) rfl ?_
      refine wp_aload_n dX7_fine_44 rfl rfl ?_
      refine wp_aload_n dX7_fine_45 rfl rfl ?_
      refine wn_getI dX7_fine_46 fRX7_89 (o12 (by decide) hg12) rfl rfl ?_
      refine wp_aload_n dX7_fine_49 rfl rfl ?_
      refine wn_getI dX7_fine_50 fRX7_92 (o12 (by decide) hg12) rfl rfl ?_
      refine wp_iconst (v := 0) dX7_fine_53 (by decide) rfl ?_
      refine wn_callV3i dX7_fine_54 rRX7_215 (rcv_of (o34 hn) rfl) (Nat.le_of_ble_eq_true rfl) rfl rfl rfl (Nat.le_of_ble_eq_true rfl) rfl (c0_give (cf := fun k => f (133 + 96 * t + k)) hn hlen hm96 hcf hwf) (fun x54 s54 hq54 => ?_)
      obtain ⟨e9, hF9⟩ := hq54
      rw [hev] at e9
      refine wp_iret dX7_fine_57 rfl rfl ?_
      refine ⟨_, _, rfl, rfl, ?_, hF9.fq (fun r hr => by rw [List.mem_singleton.mp hr]; rfl)⟩
      rw [e9, fiA_y (nat_log hc hg) hg12, txA_s ho, show s.1 (12, 0, g) 1 = f (45 + 5 * g + 1) from hV.1.lg (by omega) hg12 (by decide), show s.1 (12, 0, g) 2 = f (45 + 5 * g + 2) from hV.1.lg (by omega) hg12 (by decide)]
  · refine wp_ldc dX7_fine_11 kRX7_68 rfl ?_
    refine wp_iret dX7_fine_13 rfl rfl ?_
    exact ⟨_, _, rfl, rfl, (if_neg (fun z => by obtain ⟨g, hg, rfl⟩ := log_nat hc z; exact h8 ⟨by rw [hlc]; exact z, (nI_ltI (b := 12) (by omega) (by omega)).mpr (by omega)⟩)).symm, FQ.rf⟩
def whyA (f : Fl) (c8 : Nat) (x : Int32) : Int32 := if 0 ≤ x ∧ x ≤ 2 then oC (cts f x c8) else -1000000001
theorem c8_why {s : Sn} {c8 : Nat} {x : Int32} (hc : c8 ≤ 14) (h8 : s.1 (41, 0, 0) 8 = nI c8) : Ca (d + 1) MX8_why [vR 40 0 0, vI x] (hN s) (Pd (whyA (s.1 (41, 0, 0)) c8 x) s) := by
  change Wp _ _ 0 [some _, some _, none] [] _ _
  refine wp_iload_n dX8_why_0 rfl rfl ?_
  refine wp_iconst (v := 0) dX8_why_1 (by decide) rfl ?_
  refine wp_iconst (v := 2) dX8_why_2 (by decide) rfl ?_
  refine wn_callS3d dX8_why_3 rRX8_75 (Nat.le_of_ble_eq_true rfl) rfl rfl rfl (Nat.le_of_ble_eq_true rfl) rfl (c8_in) ?_
  refine wp_if_ne_b (t := 12) dX8_why_6 rfl rfl (fun h6 => ?_) (fun h6 => ?_)
  · refine wp_aload_n dX8_why_12 rfl rfl ?_
    refine wp_iload_n dX8_why_13 rfl rfl ?_
    refine wn_callV1d dX8_why_14 rRX8_89 (rcv_of o40 rfl) (Nat.le_of_ble_eq_true rfl) rfl (Nat.le_of_ble_eq_true rfl) rfl (c8_counts (c := c8) hc h8) ?_
    cases ho : cts (s.1 (41, 0, 0)) x c8 with
    | none =>
      refine wp_istore_n (l' := [_, _, some _]) dX8_why_17 rfl rfl ?_
      refine wp_iload_n dX8_why_18 rfl rfl ?_
      refine wp_if_ge (t := 27) dX8_why_19 rfl rfl (fun h19 => absurd h19 (by decide)) (fun h19 => ?_)
      refine wp_ldc dX8_why_22 kRX8_149 rfl ?_
      refine wp_goto (t := 28) dX8_why_24 rfl ?_
      refine wp_iret dX8_why_28 rfl rfl ?_
      refine ⟨_, _, rfl, rfl, ?_, rfl⟩
      rw [whyA, if_pos h6, ho]
      rfl
    | some t =>
      obtain ⟨htc, _⟩ := cts_lt ho
      rw [show oI (some t) = nI t from rfl]
      refine wp_istore_n (l' := [_, _, some _]) dX8_why_17 rfl rfl ?_
      refine wp_iload_n dX8_why_18 rfl rfl ?_
      refine wp_if_ge (t := 27) dX8_why_19 rfl rfl (fun h19 => ?_) (fun h19 => absurd (nI_pos' (by omega)) h19)
      refine wp_iload_n dX8_why_27 rfl rfl ?_
      refine wp_iret dX8_why_28 rfl rfl ?_
      refine ⟨_, _, rfl, rfl, ?_, rfl⟩
      rw [whyA, if_pos h6, ho]
      rfl
  · refine wp_ldc dX8_why_9 kRX8_83 rfl ?_
    refine wp_iret dX8_why_11 rfl rfl ?_
    exact ⟨_, _, rfl, rfl, (if_neg h6).symm, rfl⟩
theorem c7_why {s : Sn} {f : Fl} {c8 : Nat} {x : Int32} (hR : RC s 0 f) (hc : c8 ≤ 14) (h8 : f 8 = nI c8) (hL : LwR s 0 f c8) : Ca (d + 2) MX7_why [vR 10 0 0, vI x] (hN s) (Pd (whyA f c8 x) s) := by
  change Wp _ _ 0 [some _, some _] [] _ _
  refine wp_iload_n dX7_why_0 rfl rfl ?_
  refine wp_iconst (v := 0) dX7_why_1 (by decide) rfl ?_
  refine wp_iconst (v := 2) dX7_why_2 (by decide) rfl ?_
  refine wn_callS3d dX7_why_3 rRX7_128 (Nat.le_of_ble_eq_true rfl) rfl rfl rfl (Nat.le_of_ble_eq_true rfl) rfl (c7_within) ?_
  refine wp_if_ne_b (t := 12) dX7_why_6 rfl rfl (fun h6 => ?_) (fun h6 => ?_)
  · refine wp_aload_n dX7_why_12 rfl rfl ?_
    refine wn_getR dX7_why_13 fRX7_10 o10 rfl rfl rfl ?_
    refine wp_iload_n dX7_why_16 rfl rfl ?_
    refine wn_callV1d dX7_why_17 rRX7_256 (rcv_of (o11 (by decide)) rfl) (Nat.le_of_ble_eq_true rfl) rfl (Nat.le_of_ble_eq_true rfl) rfl (c3_lawNumberFor (by decide) ((hR.sc 8 (by decide)).trans h8) hc hL) ?_
    refine wp_iret dX7_why_20 rfl rfl ?_
    exact ⟨_, _, rfl, rfl, (if_pos h6).symm, rfl⟩
  · refine wp_ldc dX7_why_9 kRX7_68 rfl ?_
    refine wp_iret dX7_why_11 rfl rfl ?_
    exact ⟨_, _, rfl, rfl, (if_neg h6).symm, rfl⟩
abbrev ttO (c8 : Nat) (x y : Int32) : Prop := (0 ≤ x ∧ x ≤ nI c8 - 1) ∧ (0 ≤ y ∧ y ≤ 1)
def ttA (f : Fl) (c8 : Nat) (x y : Int32) : Int32 := if ttO c8 x y then (if y = 0 then f (105 + 2 * x.toNatClampNeg) / 1000 else f (105 + 2 * x.toNatClampNeg + 1)) else -1000000001
theorem ttA_y {f : Fl} {c8 t : Nat} {y : Int32} (h : ttO c8 (nI t) y) (ht : t < 14) : ttA f c8 (nI t) y = if y = 0 then f (105 + 2 * t) / 1000 else f (105 + 2 * t + 1) := by
  unfold ttA
  rw [if_pos h, nI_clamp (by omega)]
theorem log_nt {c : Nat} {x : Int32} (hc : c ≤ 14) (h : 0 ≤ x ∧ x ≤ nI c - 1) : ∃ g, g < c ∧ x = nI g := by
  obtain ⟨k, hk, rfl⟩ := nI_of (Int32.not_lt.mpr h.1)
  refine ⟨k, ?_, rfl⟩
  by_cases h0 : c = 0
  · subst h0
    exact absurd (Int32.le_trans h.1 h.2) (by decide)
  · have e : nI c - 1 = nI (c - 1) := by rw [show nI c = nI ((c - 1) + 1) by rw [show c - 1 + 1 = c by omega], nI_pred]
    rw [e] at h
    have := (nI_leI hk (by omega)).mp h.2
    omega
theorem nt_log {c g : Nat} (hc : c ≤ 14) (hg : g < c) : 0 ≤ nI g ∧ nI g ≤ nI c - 1 := by
  have e : nI c - 1 = nI (c - 1) := by rw [show nI c = nI ((c - 1) + 1) by rw [show c - 1 + 1 = c by omega], nI_pred]
  rw [e]
  exact ⟨nI_pos' (by omega), (nI_leI (by omega) (by omega)).mpr (by omega)⟩
theorem ix_t1 {t : Nat} : (105 : Int32) + 2 * nI t + 1 = nI (105 + 2 * t + 1) := by rw [ix_t, nI_1]
theorem c8_textTold {s : Sn} {c8 : Nat} {x y : Int32} (hc : c8 ≤ 14) (h8 : s.1 (41, 0, 0) 8 = nI c8) : Ca (d + 1) MX8_textTold [vR 40 0 0, vI x, vI y] (hN s) (Pd (ttA (s.1 (41, 0, 0)) c8 x y) s) := by
  change Wp _ _ 0 [some _, some _, some _] [] _ _
  refine wp_iload_n dX8_textTold_0 rfl rfl ?_
  refine wp_iconst (v := 0) dX8_textTold_1 (by decide) rfl ?_
  refine wp_aload_n dX8_textTold_2 rfl rfl ?_
  refine wn_getR dX8_textTold_3 fRX8_9 o40 rfl rfl rfl ?_
  refine wp_bipush (v := 8) dX8_textTold_6 (by decide) rfl ?_
  refine wn_iald (j := 8) dX8_textTold_8 (o41 0 rfl) rfl ⟨by decide, by decide⟩ (Nat.le_of_ble_eq_true rfl) rfl ?_
  rw [h8]
  refine wp_iconst (v := 1) dX8_textTold_9 (by decide) rfl ?_
  refine wp_isub dX8_textTold_10 rfl ?_
  refine wn_callS3d dX8_textTold_11 rRX8_75 (Nat.le_of_ble_eq_true rfl) rfl rfl rfl (Nat.le_of_ble_eq_true rfl) rfl (c8_in) ?_
  refine wp_if_eq_b (t := 26) dX8_textTold_14 rfl rfl (fun h14 => ?_) (fun h14 => ?_)
  · refine wp_ldc dX8_textTold_26 kRX8_83 rfl ?_
    refine wp_iret dX8_textTold_28 rfl rfl ?_
    exact ⟨_, _, rfl, rfl, (if_neg (fun z => h14 z.1)).symm, rfl⟩
  · obtain ⟨t, ht, rfl⟩ := log_nt hc h14
    refine wp_iload_n dX8_textTold_17 rfl rfl ?_
    refine wp_iconst (v := 0) dX8_textTold_18 (by decide) rfl ?_
    refine wp_iconst (v := 1) dX8_textTold_19 (by decide) rfl ?_
    refine wn_callS3d dX8_textTold_20 rRX8_75 (Nat.le_of_ble_eq_true rfl) rfl rfl rfl (Nat.le_of_ble_eq_true rfl) rfl (c8_in) ?_
    refine wp_if_ne_b (t := 29) dX8_textTold_23 rfl rfl (fun h23 => ?_) (fun h23 => ?_)
    · refine wp_iload_n dX8_textTold_29 rfl rfl ?_
      refine wp_if_ne (t := 51) dX8_textTold_30 rfl rfl (fun h30 => ?_) (fun h30 => ?_)
      · refine wp_aload_n dX8_textTold_51 rfl rfl ?_
        refine wn_getR dX8_textTold_52 fRX8_9 o40 rfl rfl rfl ?_
        refine wp_bipush (v := 105) dX8_textTold_55 (by decide) rfl ?_
        refine wp_iconst (v := 2) dX8_textTold_57 (by decide) rfl ?_
        refine wp_iload_n dX8_textTold_58 rfl rfl ?_
        refine wp_imul dX8_textTold_59 rfl ?_
        refine wp_iadd dX8_textTold_60 rfl ?_
        refine wp_iconst (v := 1) dX8_textTold_61 (by decide) rfl ?_
        refine wp_iadd dX8_textTold_62 rfl ?_
        refine wn_iald dX8_textTold_63 (o41 0 rfl) rfl (nIx ix_t1 (by omega)) (by show _ < 1477; omega) rfl ?_
        refine wp_iret dX8_textTold_64 rfl rfl ?_
        refine ⟨_, _, rfl, rfl, ?_, rfl⟩
        rw [ttA_y ⟨h14, h23⟩ (by omega), if_neg h30]
      · refine wp_aload_n dX8_textTold_33 rfl rfl ?_
        refine wn_getR dX8_textTold_34 fRX8_9 o40 rfl rfl rfl ?_
        refine wp_bipush (v := 105) dX8_textTold_37 (by decide) rfl ?_
        refine wp_iconst (v := 2) dX8_textTold_39 (by decide) rfl ?_
        refine wp_iload_n dX8_textTold_40 rfl rfl ?_
        refine wp_imul dX8_textTold_41 rfl ?_
        refine wp_iadd dX8_textTold_42 rfl ?_
        refine wn_iald dX8_textTold_43 (o41 0 rfl) rfl (nIx ix_t (by omega)) (by show _ < 1477; omega) rfl ?_
        refine wp_sipush (v := 1000) dX8_textTold_44 (by decide) rfl ?_
        refine wp_idiv dX8_textTold_47 (by decide) rfl ?_
        refine wp_goto (t := 64) dX8_textTold_48 rfl ?_
        refine wp_iret dX8_textTold_64 rfl rfl ?_
        refine ⟨_, _, rfl, rfl, ?_, rfl⟩
        rw [ttA_y ⟨h14, h23⟩ (by omega), if_pos h30]
    · refine wp_ldc dX8_textTold_26 kRX8_83 rfl ?_
      refine wp_iret dX8_textTold_28 rfl rfl ?_
      exact ⟨_, _, rfl, rfl, (if_neg (fun z => h23 z.2)).symm, rfl⟩
theorem c7_textTold {s : Sn} {f : Fl} {c8 : Nat} {x y : Int32} (hR : RC s 0 f) (hc : c8 ≤ 14) (h8 : f 8 = nI c8) (hL : LwR s 0 f c8) : Ca (d + 1) MX7_textTold [vR 10 0 0, vI x, vI y] (hN s) (Pd (ttA f c8 x y) s) := by
  change Wp _ _ 0 [some _, some _, some _, none] [] _ _
  have h8s : s.1 (11, 0, 0) 8 = nI c8 := (hR.sc 8 (by decide)).trans h8
  refine wp_aload_n dX7_textTold_0 rfl rfl ?_
  refine wn_getR dX7_textTold_1 fRX7_10 o10 rfl rfl rfl ?_
  refine wp_iload_n dX7_textTold_4 rfl rfl ?_
  refine wn_callV1r dX7_textTold_5 rRX7_247 (rcv_of (o11 (by decide)) rfl) (Nat.le_of_ble_eq_true rfl) rfl (Nat.le_of_ble_eq_true rfl) rfl (c3_lawAt (by decide)) (fun x5 s5 hq5 => ?_)
  obtain ⟨e5, eLW⟩ := hq5
  rw [eLW]
  by_cases hx : 0 ≤ x ∧ x ≤ nI c8 - 1
  · obtain ⟨t, ht, rfl⟩ := log_nt hc hx
    obtain ⟨n, hq1, hn, hLR⟩ := hL t ht
    have e : lwa s 0 (nI t) = some (34, n, 0) := by
      unfold lwa
      rw [h8s, if_pos ⟨⟨nI_pos' (by omega), (nI_ltI (by omega) (by omega)).mpr ht⟩, (nI_ltI (b := 14) (by omega) (by decide)).mpr (by omega)⟩, nI_clamp (by omega), hq1]
      rfl
    rw [e5, e]
    refine wp_astore_n (l' := [_, _, _, some _]) dX7_textTold_8 rfl rfl ?_
    refine wp_aload_n dX7_textTold_9 rfl rfl ?_
    refine wp_ifnullS dX7_textTold_10 (Nat.le_of_ble_eq_true rfl) rfl ?_
    refine wp_iload_n dX7_textTold_13 rfl rfl ?_
    refine wp_iconst (v := 0) dX7_textTold_14 (by decide) rfl ?_
    refine wp_iconst (v := 1) dX7_textTold_15 (by decide) rfl ?_
    refine wn_callS3d dX7_textTold_16 rRX7_128 (Nat.le_of_ble_eq_true rfl) rfl rfl rfl (Nat.le_of_ble_eq_true rfl) rfl (c7_within) ?_
    refine wp_if_ne_b (t := 25) dX7_textTold_19 rfl rfl (fun h19 => ?_) (fun h19 => ?_)
    · refine wp_iload_n dX7_textTold_25 rfl rfl ?_
      refine wp_if_ne (t := 36) dX7_textTold_26 rfl rfl (fun h26 => ?_) (fun h26 => ?_)
      · refine wp_aload_n dX7_textTold_36 rfl rfl ?_
        refine wn_getI dX7_textTold_37 fRX7_253 (o34 hn) rfl rfl ?_
        refine wp_iret dX7_textTold_40 rfl rfl ?_
        refine ⟨_, _, rfl, rfl, ?_, rfl⟩
        rw [ttA_y ⟨hx, h19⟩ (by omega), if_neg h26]
        exact hLR.2.1
      · refine wp_aload_n dX7_textTold_29 rfl rfl ?_
        refine wn_getI dX7_textTold_30 fRX7_250 (o34 hn) rfl rfl ?_
        refine wp_goto (t := 40) dX7_textTold_33 rfl ?_
        refine wp_iret dX7_textTold_40 rfl rfl ?_
        refine ⟨_, _, rfl, rfl, ?_, rfl⟩
        rw [ttA_y ⟨hx, h19⟩ (by omega), if_pos h26]
        exact hLR.1
    · refine wp_ldc dX7_textTold_22 kRX7_68 rfl ?_
      refine wp_iret dX7_textTold_24 rfl rfl ?_
      exact ⟨_, _, rfl, rfl, (if_neg (fun z => h19 z.2)).symm, rfl⟩
  · have e : lwa s 0 x = none := by
      unfold lwa
      rw [h8s]
      refine if_neg (fun z => hx ?_)
      obtain ⟨k, hk, rfl⟩ := nI_of (Int32.not_lt.mpr z.1.1)
      exact nt_log hc ((nI_ltI hk (by omega)).mp z.1.2)
    rw [e5, e]
    refine wp_astore_n (l' := [_, _, _, some _]) dX7_textTold_8 rfl rfl ?_
    refine wp_aload_n dX7_textTold_9 rfl rfl ?_
    refine wp_ifnullN (t := 22) dX7_textTold_10 rfl ?_
    refine wp_ldc dX7_textTold_22 kRX7_68 rfl ?_
    refine wp_iret dX7_textTold_24 rfl rfl ?_
    exact ⟨_, _, rfl, rfl, (if_neg (fun z => hx z.1)).symm, rfl⟩
def cnA (f : Fl) (wt tp x : Int32) : Int32 := if x = 0 then f 1 else if x = 1 then f 2 else if x = 2 then f 3 else if x = 3 then f 4 else if x = 4 then f 5 else if x = 5 then f 7 else if x = 6 then f 8 else if x = 7 then wt else if x = 8 then tp else if x = 9 then f 0 else -1000000001
theorem cnA_n {f : Fl} {wt tp x : Int32} (h0 : ¬ x = 0) (h1 : ¬ x = 1) (h2 : ¬ x = 2) (h3 : ¬ x = 3) (h4 : ¬ x = 4) (h5 : ¬ x = 5) (h6 : ¬ x = 6) (h7 : ¬ x = 7) (h8 : ¬ x = 8) (h9 : ¬ x = 9) : cnA f wt tp x = -1000000001 := by
  unfold cnA
  rw [if_neg h0, if_neg h1, if_neg h2, if_neg h3, if_neg h4, if_neg h5, if_neg h6, if_neg h7, if_neg h8, if_neg h9]
theorem c8_count {s : Sn} {x : Int32} : Ca d MX8_count [vR 40 0 0, vI x] (hN s) (Pd (cnA (s.1 (41, 0, 0)) (s.1 (40, 0, 0) 32) (s.1 (40, 0, 0) 6) x) s) := by
  change Wp _ _ 0 [some _, some _] [] _ _
  refine wp_iload_n dX8_count_0 rfl rfl ?_
  refine wp_tsw10 (c0 := 0) (c1 := 1) (c2 := 2) (c3 := 3) (c4 := 4) (c5 := 5) (c6 := 6) (c7 := 7) (c8 := 8) (c9 := 9) (t0 := 56) (t1 := 63) (t2 := 63) (t3 := 63) (t4 := 63) (t5 := 74) (t6 := 82) (t7 := 90) (t8 := 95) (t9 := 100) (t := 107) dX8_count_1 rfl (by decide) (by decide) (by decide) (by decide) (by decide) (by decide) (by decide) (by decide) (by decide) (by decide) rfl rfl rfl rfl rfl rfl rfl rfl rfl rfl rfl rfl rfl rfl rfl rfl rfl rfl rfl rfl rfl (fun k1 => ?_) (fun k1 => ?_) (fun k1 => ?_) (fun k1 => ?_) (fun k1 => ?_) (fun k1 => ?_) (fun k1 => ?_) (fun k1 => ?_) (fun k1 => ?_) (fun k1 => ?_) (fun n1_0 n1_1 n1_2 n1_3 n1_4 n1_5 n1_6 n1_7 n1_8 n1_9 => ?_)
  · refine wp_aload_n dX8_count_56 rfl rfl ?_
    refine wn_getR dX8_count_57 fRX8_9 o40 rfl rfl rfl ?_
    refine wp_iconst (v := 1) dX8_count_60 (by decide) rfl ?_
    refine wn_iald (j := 1) dX8_count_61 (o41 0 rfl) rfl ⟨by decide, by decide⟩ (Nat.le_of_ble_eq_true rfl) rfl ?_
    refine wp_iret dX8_count_62 rfl rfl ?_
    subst k1
    exact ⟨_, _, rfl, rfl, rfl, rfl⟩
  · subst k1
    refine wp_aload_n dX8_count_63 rfl rfl ?_
    refine wn_getR dX8_count_64 fRX8_9 o40 rfl rfl rfl ?_
    refine wp_iconst (v := 2) dX8_count_67 (by decide) rfl ?_
    refine wp_iload_n dX8_count_68 rfl rfl ?_
    refine wp_iadd dX8_count_69 rfl ?_
    refine wp_iconst (v := 1) dX8_count_70 (by decide) rfl ?_
    refine wp_isub dX8_count_71 rfl ?_
    refine wn_iald dX8_count_72 (o41 0 rfl) rfl (nIx (k := 2) (by decide) (by decide)) (by show _ < 1477; decide) rfl ?_
    refine wp_iret dX8_count_73 rfl rfl ?_
    exact ⟨_, _, rfl, rfl, rfl, rfl⟩
  · subst k1
    refine wp_aload_n dX8_count_63 rfl rfl ?_
    refine wn_getR dX8_count_64 fRX8_9 o40 rfl rfl rfl ?_
    refine wp_iconst (v := 2) dX8_count_67 (by decide) rfl ?_
    refine wp_iload_n dX8_count_68 rfl rfl ?_
    refine wp_iadd dX8_count_69 rfl ?_
    refine wp_iconst (v := 1) dX8_count_70 (by decide) rfl ?_
    refine wp_isub dX8_count_71 rfl ?_
    refine wn_iald dX8_count_72 (o41 0 rfl) rfl (nIx (k := 3) (by decide) (by decide)) (by show _ < 1477; decide) rfl ?_
    refine wp_iret dX8_count_73 rfl rfl ?_
    exact ⟨_, _, rfl, rfl, rfl, rfl⟩
  · subst k1
    refine wp_aload_n dX8_count_63 rfl rfl ?_
    refine wn_getR dX8_count_64 fRX8_9 o40 rfl rfl rfl ?_
    refine wp_iconst (v := 2) dX8_count_67 (by decide) rfl ?_
    refine wp_iload_n dX8_count_68 rfl rfl ?_
    refine wp_iadd dX8_count_69 rfl ?_
    refine wp_iconst (v := 1) dX8_count_70 (by decide) rfl ?_
    refine wp_isub dX8_count_71 rfl ?_
    refine wn_iald dX8_count_72 (o41 0 rfl) rfl (nIx (k := 4) (by decide) (by decide)) (by show _ < 1477; decide) rfl ?_
    refine wp_iret dX8_count_73 rfl rfl ?_
    exact ⟨_, _, rfl, rfl, rfl, rfl⟩
  · subst k1
    refine wp_aload_n dX8_count_63 rfl rfl ?_
    refine wn_getR dX8_count_64 fRX8_9 o40 rfl rfl rfl ?_
    refine wp_iconst (v := 2) dX8_count_67 (by decide) rfl ?_
    refine wp_iload_n dX8_count_68 rfl rfl ?_
    refine wp_iadd dX8_count_69 rfl ?_
    refine wp_iconst (v := 1) dX8_count_70 (by decide) rfl ?_
    refine wp_isub dX8_count_71 rfl ?_
    refine wn_iald dX8_count_72 (o41 0 rfl) rfl (nIx (k := 5) (by decide) (by decide)) (by show _ < 1477; decide) rfl ?_
    refine wp_iret dX8_count_73 rfl rfl ?_
    exact ⟨_, _, rfl, rfl, rfl, rfl⟩
  · refine wp_aload_n dX8_count_74 rfl rfl ?_
    refine wn_getR dX8_count_75 fRX8_9 o40 rfl rfl rfl ?_
    refine wp_bipush (v := 7) dX8_count_78 (by decide) rfl ?_
    refine wn_iald (j := 7) dX8_count_80 (o41 0 rfl) rfl ⟨by decide, by decide⟩ (Nat.le_of_ble_eq_true rfl) rfl ?_
    refine wp_iret dX8_count_81 rfl rfl ?_
    subst k1
    exact ⟨_, _, rfl, rfl, rfl, rfl⟩
  · refine wp_aload_n dX8_count_82 rfl rfl ?_
    refine wn_getR dX8_count_83 fRX8_9 o40 rfl rfl rfl ?_
    refine wp_bipush (v := 8) dX8_count_86 (by decide) rfl ?_
    refine wn_iald (j := 8) dX8_count_88 (o41 0 rfl) rfl ⟨by decide, by decide⟩ (Nat.le_of_ble_eq_true rfl) rfl ?_
    refine wp_iret dX8_count_89 rfl rfl ?_
    subst k1
    exact ⟨_, _, rfl, rfl, rfl, rfl⟩
  · refine wp_aload_n dX8_count_90 rfl rfl ?_
    refine wn_getI dX8_count_91 fRX8_251 o40 rfl rfl ?_
    refine wp_iret dX8_count_94 rfl rfl ?_
    subst k1
    exact ⟨_, _, rfl, rfl, rfl, rfl⟩
  · refine wp_aload_n dX8_count_95 rfl rfl ?_
    refine wn_getI dX8_count_96 fRX8_176 o40 rfl rfl ?_
    refine wp_iret dX8_count_99 rfl rfl ?_
    subst k1
    exact ⟨_, _, rfl, rfl, rfl, rfl⟩
  · refine wp_aload_n dX8_count_100 rfl rfl ?_
    refine wn_getR dX8_count_101 fRX8_9 o40 rfl rfl rfl ?_
    refine wp_iconst (v := 0) dX8_count_104 (by decide) rfl ?_
    refine wn_iald (j := 0) dX8_count_105 (o41 0 rfl) rfl ⟨by decide, by decide⟩ (Nat.le_of_ble_eq_true rfl) rfl ?_
    refine wp_iret dX8_count_106 rfl rfl ?_
    subst k1
    exact ⟨_, _, rfl, rfl, rfl, rfl⟩
  · refine wp_ldc dX8_count_107 kRX8_83 rfl ?_
    refine wp_iret dX8_count_109 rfl rfl ?_
    exact ⟨_, _, rfl, rfl, (cnA_n n1_0 n1_1 n1_2 n1_3 n1_4 n1_5 n1_6 n1_7 n1_8 n1_9).symm, rfl⟩
theorem c7_count {s : Sn} {f : Fl} {x : Int32} (hR : RC s 0 f) : Ca d MX7_count [vR 10 0 0, vI x] (hN s) (Pd (cnA f (s.1 (10, 0, 0) 8) (s.1 (21, 0, 0) 1) x) s) := by
  change Wp _ _ 0 [some _, some _] [] _ _
  refine wp_iload_n dX7_count_0 rfl rfl ?_
  refine wp_tsw10 (c0 := 0) (c1 := 1) (c2 := 2) (c3 := 3) (c4 := 4) (c5 := 5) (c6 := 6) (c7 := 7) (c8 := 8) (c9 := 9) (t0 := 56) (t1 := 64) (t2 := 72) (t3 := 80) (t4 := 88) (t5 := 96) (t6 := 104) (t7 := 112) (t8 := 117) (t9 := 128) (t := 136) dX7_count_1 rfl (by decide) (by decide) (by decide) (by decide) (by decide) (by decide) (by decide) (by decide) (by decide) (by decide) rfl rfl rfl rfl rfl rfl rfl rfl rfl rfl rfl rfl rfl rfl rfl rfl rfl rfl rfl rfl rfl (fun k1 => ?_) (fun k1 => ?_) (fun k1 => ?_) (fun k1 => ?_) (fun k1 => ?_) (fun k1 => ?_) (fun k1 => ?_) (fun k1 => ?_) (fun k1 => ?_) (fun k1 => ?_) (fun n1_0 n1_1 n1_2 n1_3 n1_4 n1_5 n1_6 n1_7 n1_8 n1_9 => ?_)
  · refine wp_aload_n dX7_count_56 rfl rfl ?_
    refine wn_getR dX7_count_57 fRX7_10 o10 rfl rfl rfl ?_
    refine wn_getI dX7_count_60 fRX7_73 (o11 (by decide)) rfl rfl ?_
    refine wp_iret dX7_count_63 rfl rfl ?_
    subst k1
    exact ⟨_, _, rfl, rfl, hR.sc 1 (by decide), rfl⟩
  · refine wp_aload_n dX7_count_64 rfl rfl ?_
    refine wn_getR dX7_count_65 fRX7_10 o10 rfl rfl rfl ?_
    refine wn_getI dX7_count_68 fRX7_164 (o11 (by decide)) rfl rfl ?_
    refine wp_iret dX7_count_71 rfl rfl ?_
    subst k1
    exact ⟨_, _, rfl, rfl, hR.sc 2 (by decide), rfl⟩
  · refine wp_aload_n dX7_count_72 rfl rfl ?_
    refine wn_getR dX7_count_73 fRX7_10 o10 rfl rfl rfl ?_
    refine wn_getI dX7_count_76 fRX7_140 (o11 (by decide)) rfl rfl ?_
    refine wp_iret dX7_count_79 rfl rfl ?_
    subst k1
    exact ⟨_, _, rfl, rfl, hR.sc 3 (by decide), rfl⟩
  · refine wp_aload_n dX7_count_80 rfl rfl ?_
    refine wn_getR dX7_count_81 fRX7_10 o10 rfl rfl rfl ?_
    refine wn_getI dX7_count_84 fRX7_137 (o11 (by decide)) rfl rfl ?_
    refine wp_iret dX7_count_87 rfl rfl ?_
    subst k1
    exact ⟨_, _, rfl, rfl, hR.sc 4 (by decide), rfl⟩
  · refine wp_aload_n dX7_count_88 rfl rfl ?_
    refine wn_getR dX7_count_89 fRX7_10 o10 rfl rfl rfl ?_
    refine wn_getI dX7_count_92 fRX7_109 (o11 (by decide)) rfl rfl ?_
    refine wp_iret dX7_count_95 rfl rfl ?_
    subst k1
    exact ⟨_, _, rfl, rfl, hR.sc 5 (by decide), rfl⟩
  · refine wp_aload_n dX7_count_96 rfl rfl ?_
    refine wn_getR dX7_count_97 fRX7_10 o10 rfl rfl rfl ?_
    refine wn_getI dX7_count_100 fRX7_146 (o11 (by decide)) rfl rfl ?_
    refine wp_iret dX7_count_103 rfl rfl ?_
    subst k1
    exact ⟨_, _, rfl, rfl, hR.sc 7 (by decide), rfl⟩
  · refine wp_aload_n dX7_count_104 rfl rfl ?_
    refine wn_getR dX7_count_105 fRX7_10 o10 rfl rfl rfl ?_
    refine wn_getI dX7_count_108 fRX7_244 (o11 (by decide)) rfl rfl ?_
    refine wp_iret dX7_count_111 rfl rfl ?_
    subst k1
    exact ⟨_, _, rfl, rfl, hR.sc 8 (by decide), rfl⟩
  · refine wp_aload_n dX7_count_112 rfl rfl ?_
    refine wn_getI dX7_count_113 fRX7_48 o10 rfl rfl ?_
    refine wp_iret dX7_count_116 rfl rfl ?_
    subst k1
    exact ⟨_, _, rfl, rfl, rfl, rfl⟩
  · refine wp_aload_n dX7_count_117 rfl rfl ?_
    refine wn_getR dX7_count_118 fRX7_28 o10 rfl rfl rfl ?_
    refine wn_getR dX7_count_121 fRX7_221 o20 rfl rfl rfl ?_
    refine wn_getI dX7_count_124 fRX7_225 o21 rfl rfl ?_
    refine wp_iret dX7_count_127 rfl rfl ?_
    subst k1
    exact ⟨_, _, rfl, rfl, rfl, rfl⟩
  · refine wp_aload_n dX7_count_128 rfl rfl ?_
    refine wn_getR dX7_count_129 fRX7_10 o10 rfl rfl rfl ?_
    refine wn_getI dX7_count_132 fRX7_158 (o11 (by decide)) rfl rfl ?_
    refine wp_iret dX7_count_135 rfl rfl ?_
    subst k1
    exact ⟨_, _, rfl, rfl, hR.sc 0 (by decide), rfl⟩
  · refine wp_ldc dX7_count_136 kRX7_68 rfl ?_
    refine wp_iret dX7_count_138 rfl rfl ?_
    exact ⟨_, _, rfl, rfl, (cnA_n n1_0 n1_1 n1_2 n1_3 n1_4 n1_5 n1_6 n1_7 n1_8 n1_9).symm, rfl⟩
end
