section
variable {d i : Nat}
theorem ctr_zero {p : Nat → Bool} : ∀ {n : Nat}, ctr p n = 0 → ∀ k, k < n → ¬ p k = true
  | 0, _, k, h => absurd h (Nat.not_lt_zero k)
  | n + 1, h, k, hk => by
    have h2 : ctr p n + (if p n = true then 1 else 0) = 0 := h
    by_cases e : k = n
    · subst e; intro z; rw [if_pos z] at h2; omega
    · exact ctr_zero (n := n) (by omega) k (by omega)
theorem rch_nil {r : Int32} {f : Fl} (h : mny f r = 0) : ∀ n, n ≤ cn f → rch r n f = f
  | 0, _ => rfl
  | n + 1, hn => by
    have := ctr_zero h (cn f - (n + 1)) (by omega)
    rw [rch_s, if_neg (fun z => this (decide_eq_true z))]
    exact rch_nil h n (by omega)
theorem l3_pw {c c8 : Nat} {r : Option Rf} {P : Option Av → St → Prop} (hi : i < 4) : ∀ m, m ≤ 12 → ∀ (s1 : Sn) (f1 : Fl), MW s1 i f1 c → Wr f1 c c8 → LW s1 i f1 c8 0 r → (∀ s2 : Sn, MW s2 i (rvr m f1) c → FQ (XR i) s1 s2 → Wp (d + 4) MX3_passWeek 58 [some (vR 11 i 0), some (.inr (.inr r)), some (vI (-1))] [] (hN s2) P) → Wp (d + 4) MX3_passWeek 33 [some (vR 11 i 0), some (.inr (.inr r)), some (vI (nI m - 1))] [] (hN s1) P := by
  intro m
  induction m with
  | zero =>
    intro _ s1 f1 hM hW hL kk
    rw [show nI 0 - 1 = -1 from by decide]
    refine wp_iload_n dX3_passWeek_33 rfl rfl ?_
    refine wp_if_lt (t := 58) dX3_passWeek_34 rfl rfl (fun h34 => ?_) (fun h34 => absurd (by decide) h34)
    exact kk s1 hM FQ.rf
  | succ m ih =>
    intro hm s1 f1 hM hW hL kk
    have hcn : cn f1 = c := hW.1.cn
    have hc12 := hW.1.2.1
    rw [nI_pred]
    refine wp_iload_n dX3_passWeek_33 rfl rfl ?_
    refine wp_if_lt (t := 58) dX3_passWeek_34 rfl rfl (fun h34 => absurd h34 (nI_pos (by omega))) (fun h34 => ?_)
    refine wp_aload_n dX3_passWeek_37 rfl rfl ?_
    refine wn_getR dX3_passWeek_38 fRX3_24 (o11 hi) rfl rfl rfl ?_
    refine wp_iload_n dX3_passWeek_41 rfl rfl ?_
    refine wn_iald dX3_passWeek_42 (o16 hi) rfl (nIx rfl (by omega)) (show m < 12 by omega) rfl ?_
    rw [hM.2.1 m (by omega)]
    refine wp_if_le (t := 52) dX3_passWeek_43 rfl rfl (fun h43 => ?_) (fun h43 => ?_)
    · refine wp_iinc (l' := [_, _, some _]) (v := (-1)) dX3_passWeek_52 rfl (by decide) rfl rfl ?_
      refine wp_goto (t := 33) dX3_passWeek_55 rfl ?_
      rw [m1_sub]
      have h0 : mny f1 (nI m) = 0 := by
        have hle : mny f1 (nI m) ≤ cn f1 := mny_le
        have := (nI_leI (b := 0) (by omega) (by omega)).mp h43
        omega
      exact ih (by omega) s1 f1 hM hW hL (fun s2 hM2 hF2 => kk s2 (by rw [rvr_s, rch_nil h0 _ (Nat.le_refl _)]; exact hM2) hF2)
    · refine wp_aload_n dX3_passWeek_46 rfl rfl ?_
      refine wp_iload_n dX3_passWeek_47 rfl rfl ?_
      refine wp_aload_n dX3_passWeek_48 rfl rfl ?_
      refine wn_callV2n dX3_passWeek_49 rRX3_142 (rcv_of (o11 hi) rfl) (Nat.le_of_ble_eq_true rfl) rfl rfl (Nat.le_of_ble_eq_true rfl) rfl (c3_carryFrom hi (show m < 12 by omega) hM hW hL) (fun s49 hq49 => ?_)
      obtain ⟨hM49, hF49⟩ := hq49
      refine wp_iinc (l' := [_, _, some _]) (v := (-1)) dX3_passWeek_52 rfl (by decide) rfl rfl ?_
      refine wp_goto (t := 33) dX3_passWeek_55 rfl ?_
      rw [m1_sub]
      refine ih (by omega) s49 _ hM49 (hW.rch (Nat.le_refl _)) (hL.cg (fun r hr => hF49.1 r (XR_law hr)) hF49.2 (fun q hq => rch_hi hq c f1 (by rw [hcn]; exact hc12))) (fun s2 hM2 hF2 => kk s2 (by rw [rvr_s, hcn]; exact hM2) (hF49.tr hF2))
theorem c3_passWeek {s : Sn} {f : Fl} {c c8 : Nat} (hi : i < 4) (hV : RV s i f c) (hW : Wr f c c8) (hLw : LwR s i f c8) : Ca (d + 4) MX3_passWeek [vR 11 i 0] (hN s) (Pn fun t => (RV t i (wek f) c ∧ LwR t i (wek f) c8) ∧ FQ (XR i) s t) := by
  change Wp _ _ 0 [some _, none, none] [] _ _
  have hV0 := hV
  obtain ⟨hR, h13, h1, hc12⟩ := hV0
  have hW0 := hW.wk0
  have h0 : s.1 (11, i, 0) 15 = f 0 := hR.sc 0 (by decide)
  have h4 : s.1 (11, i, 0) 11 = f 4 := hR.sc 4 (by decide)
  refine wp_aload_n dX3_passWeek_0 rfl rfl ?_
  refine wp_iconst (v := 0) dX3_passWeek_1 (by decide) rfl ?_
  refine wp_aload_n dX3_passWeek_2 rfl rfl ?_
  refine wn_callV0d dX3_passWeek_3 rRX3_97 (rcv_of (o11 hi) rfl) (Nat.le_of_ble_eq_true rfl)  (Nat.le_of_ble_eq_true rfl) rfl (c3_draw hi) ?_
  rw [h0]
  refine wp_bipush (v := 10) dX3_passWeek_6 (by decide) rfl ?_
  refine wp_irem dX3_passWeek_8 (by decide) rfl ?_
  rw [show ∀ x y : Int32, x - x / y * y = rm x y from fun _ _ => rfl]
  refine wp_aload_n dX3_passWeek_9 rfl rfl ?_
  refine wn_getI dX3_passWeek_10 fRX3_52 (o11 hi) rfl rfl ?_
  rw [sI_nk (show (11 : Nat) ≠ 15 by decide), h4]
  refine wp_isub dX3_passWeek_13 rfl ?_
  refine wp_max dX3_passWeek_14 rRX3_117 (by omega) (Nat.le_of_ble_eq_true rfl) rfl ?_
  have hfl : (if (0 : Int32) < rm (dv (dz (f 0))) 10 - f 4 then rm (dv (dz (f 0))) 10 - f 4 else 0) = (wth (rm (dv (dz (f 0))) 10 - f 4) 0 9) := by
    obtain ⟨k1, hk1, e1⟩ := dv_nat (dz (f 0))
    obtain ⟨dr, hdr, e4⟩ := hW.2.2.2
    rw [e1, e4, show (10 : Int32) = nI 10 from rfl, rm_nat (by omega) (by decide) (by omega)]
    exact max9 _ (Nat.mod_lt _ (by decide)) _ hdr
  rw [hfl]
  refine wn_putI dX3_passWeek_17 fRX3_46 (o11 hi) rfl rfl rfl ?_
  have hR0 : RC (sI (sI s (11, i, 0) 15 (dz (f 0))) (11, i, 0) 9 (wth (rm (dv (dz (f 0))) 10 - f 4) 0 9)) i (wk0 f) := RC.pt (q := ((11, i, 0), 9)) (RC.pt (q := ((11, i, 0), 15)) hR (show rc i 0 = _ from rfl) (by decide)) (show rc i 3 = _ from rfl) (by decide)
  refine wp_aload_n dX3_passWeek_20 rfl rfl ?_
  refine wn_callV0n dX3_passWeek_21 rRX3_136 (rcv_of (o11 hi) rfl) (Nat.le_of_ble_eq_true rfl)  (Nat.le_of_ble_eq_true rfl) rfl (c3_countHeld hi hR0 hW0.1.1 hc12 hW0.1.2.2.2.2.2) (fun s21 hq21 => ?_)
  obtain ⟨hH21, hF21⟩ := hq21
  have hF0 : FQ (XR i) s s21 := ((FQ.rf.pt (Or.inr ⟨rfl, Or.inl rfl⟩)).pt (Or.inr ⟨rfl, Or.inl rfl⟩)).tr (hF21.wd (fun r hr => by rw [show r = (16, i, 0) from hr]; exact Or.inr ⟨rfl, Or.inr (Or.inr rfl)⟩))
  have hR21 : RC s21 i (wk0 f) := hR0.cg (fun r _ hr => hF21.1 r (fun z => by rw [show r = (16, i, 0) from z] at hr; exact absurd hr (by show ¬ (16 = 11 ∨ 16 = 17 ∨ 16 = 14 ∨ 16 = 15 ∨ 16 = 12); decide))) (fun _ _ => rfl)
  have hM21 : MW s21 i (wk0 f) c := by
    refine ⟨hR21, hH21, ?_, hW0.1.1, hc12⟩
    rw [hF21.1 _ (show ((11, i, 0) : Rf) ≠ (16, i, 0) by intro z; exact absurd (congrArg Prod.fst z) (by show ¬ 11 = 16; decide)), sI_nk (by decide), sI_nk (by decide), h13]
    show _ = nI (mny (upd (upd f 0 _) 3 _) 12)
    rw [mny_lo (by decide) (by decide), mny_lo (by decide) (by decide)]
  have hLw21 : LwR s21 i (wk0 f) c8 := hLw.cg (fun r hr => hF0.1 r (XR_law hr)) hF0.2 (fun k hk => by show upd (upd f 0 _) 3 _ k = f k; rw [upd_ne (by omega), upd_ne (by omega)])
  have h821 : s21.1 (11, i, 0) 8 = nI c8 := (hR21.sc 8 (by decide)).trans hW0.1.2.2.1
  refine wp_aload_n dX3_passWeek_24 rfl rfl ?_
  refine wp_iconst (v := 0) dX3_passWeek_25 (by decide) rfl ?_
  refine wn_callV1r dX3_passWeek_26 rRX3_139 (rcv_of (o11 hi) rfl) (Nat.le_of_ble_eq_true rfl) rfl (Nat.le_of_ble_eq_true rfl) rfl (c3_lawFor hi h821 hW0.1.2.2.2.1 hLw21) (fun x26 s26 hq26 => ?_)
  obtain ⟨hL26, e26⟩ := hq26
  rw [e26]
  refine wp_astore_n (l' := [_, some _, _]) dX3_passWeek_29 rfl rfl ?_
  refine wp_bipush (v := 11) dX3_passWeek_30 (by decide) rfl ?_
  refine wp_istore_n (l' := [_, _, some _]) dX3_passWeek_32 rfl rfl ?_
  rw [show (11 : Int32) = nI 12 - 1 from by decide]
  refine l3_pw (d := d) hi 12 (Nat.le_refl _) s21 _ hM21 hW0 hL26 (fun s58 hM58 hF58 => ?_)
  have hM58 : MW s58 i (wk1 f) c := hM58
  refine wp_aload_n dX3_passWeek_58 rfl rfl ?_
  refine wn_getI dX3_passWeek_59 fRX3_49 (o11 hi) rfl rfl ?_
  rw [show s58.1 (11, i, 0) 10 = wk1 f 5 from hM58.1.sc 5 (by decide)]
  refine wp_if_le (t := 85) dX3_passWeek_62 rfl rfl (fun h62 => ?_) (fun h62 => ?_)
  · refine wp_aload_n dX3_passWeek_85 rfl rfl ?_
    refine wp_dup dX3_passWeek_86 rfl rfl ?_
    refine wn_getI dX3_passWeek_87 fRX3_61 (o11 hi) rfl rfl ?_
    rw [show s58.1 (11, i, 0) 14 = wk1 f 2 from hM58.1.sc 2 (by decide)]
    refine wp_iconst (v := 1) dX3_passWeek_90 (by decide) rfl ?_
    refine wp_iadd dX3_passWeek_91 rfl ?_
    refine wn_putI dX3_passWeek_92 fRX3_61 (o11 hi) rfl rfl rfl ?_
    refine wp_ret dX3_passWeek_95 rfl ?_
    have e2 : wk2 (wk1 f) = wk1 f := by rw [wk2_u, if_neg (fun z => absurd z.1 (Int32.not_lt.mpr h62))]
    have hE : wek f = upd (wk1 f) 2 ((wk1 f) 2 + 1) := by
      show upd (wk2 (wk1 f)) 2 (wk2 (wk1 f) 2 + 1) = _
      rw [e2]
    have hFa := (hF0.tr hF58).pt (r := (11, i, 0)) (k := 14) (v := (wk1 f) 2 + 1) (Or.inr ⟨rfl, Or.inl rfl⟩)
    refine ⟨_, rfl, rfl, ⟨?_, ?_⟩, hFa⟩
    · rw [hE]
      exact ⟨RC.pt (q := ((11, i, 0), 14)) hM58.1 (show rc i 2 = _ from rfl) (by decide), by rw [sI_nk (by decide), mny_lo (by decide) (by decide)]; exact hM58.2.2.1, by rw [upd_ne (by decide)]; exact hM58.2.2.2.1, hc12⟩
    · exact hLw.cg (fun r hr => hFa.1 r (XR_law hr)) hFa.2 (fun k hk => wek_hi hW.1 hk)
  · refine wp_aload_n dX3_passWeek_65 rfl rfl ?_
    refine wn_getI dX3_passWeek_66 fRX3_36 (o11 hi) rfl rfl ?_
    rw [show s58.1 (11, i, 0) 6 = wk1 f 1 from hM58.1.sc 1 (by decide)]
    refine wp_if_le (t := 85) dX3_passWeek_69 rfl rfl (fun h69 => ?_) (fun h69 => ?_)
    · refine wp_aload_n dX3_passWeek_85 rfl rfl ?_
      refine wp_dup dX3_passWeek_86 rfl rfl ?_
      refine wn_getI dX3_passWeek_87 fRX3_61 (o11 hi) rfl rfl ?_
      rw [show s58.1 (11, i, 0) 14 = wk1 f 2 from hM58.1.sc 2 (by decide)]
      refine wp_iconst (v := 1) dX3_passWeek_90 (by decide) rfl ?_
      refine wp_iadd dX3_passWeek_91 rfl ?_
      refine wn_putI dX3_passWeek_92 fRX3_61 (o11 hi) rfl rfl rfl ?_
      refine wp_ret dX3_passWeek_95 rfl ?_
      have e2 : wk2 (wk1 f) = wk1 f := by rw [wk2_u, if_neg (fun z => absurd z.2 (Int32.not_lt.mpr h69))]
      have hE : wek f = upd (wk1 f) 2 ((wk1 f) 2 + 1) := by
        show upd (wk2 (wk1 f)) 2 (wk2 (wk1 f) 2 + 1) = _
        rw [e2]
      have hFa := (hF0.tr hF58).pt (r := (11, i, 0)) (k := 14) (v := (wk1 f) 2 + 1) (Or.inr ⟨rfl, Or.inl rfl⟩)
      refine ⟨_, rfl, rfl, ⟨?_, ?_⟩, hFa⟩
      · rw [hE]
        exact ⟨RC.pt (q := ((11, i, 0), 14)) hM58.1 (show rc i 2 = _ from rfl) (by decide), by rw [sI_nk (by decide), mny_lo (by decide) (by decide)]; exact hM58.2.2.1, by rw [upd_ne (by decide)]; exact hM58.2.2.2.1, hc12⟩
      · exact hLw.cg (fun r hr => hFa.1 r (XR_law hr)) hFa.2 (fun k hk => wek_hi hW.1 hk)
    · have h158 : wk1 f 1 = nI c := hM58.2.2.2.1
      have hc0 : 0 < c := by
        have h3 := h69
        rw [h158] at h3
        have := mt (nI_leI (b := 0) (by omega) (by omega)).mpr h3
        omega
      obtain ⟨k1, hk1, ek1⟩ := dv_nat (dz (wk1 f 0))
      obtain ⟨g, hg⟩ : ∃ g, g = k1 % c := ⟨_, rfl⟩
      have hgc : g < c := by rw [hg]; exact Nat.mod_lt _ hc0
      have hgI : rm (dv (dz (wk1 f 0))) (wk1 f 1) = nI g := by rw [ek1, h158, rm_nat (by omega) hc0 (by omega), hg]
      have hgn : (rm (dv (dz (wk1 f 0))) (wk1 f 1)).toNatClampNeg = g := by rw [hgI, nI_clamp (by omega)]
      have h058 : s58.1 (11, i, 0) 15 = wk1 f 0 := hM58.1.sc 0 (by decide)
      have hV74 : RV (sI s58 (11, i, 0) 15 (dz (wk1 f 0))) i (upd (wk1 f) 0 (dz (wk1 f 0))) c := ⟨RC.pt (q := ((11, i, 0), 15)) hM58.1 (show rc i 0 = _ from rfl) (by decide), by rw [sI_nk (by decide), mny_lo (by decide) (by decide)]; exact hM58.2.2.1, by rw [upd_ne (by decide)]; exact h158, hc12⟩
      obtain ⟨q, hq13, hq0⟩ := (Wq_rvr 12 _ hW0.1).2.2.2.2.2 g (by omega)
      have hq : upd (wk1 f) 0 (dz (wk1 f 0)) (45 + 5 * g + 3) = nI q := by rw [upd_ne (by omega)]; exact hq0
      refine wp_aload_n dX3_passWeek_72 rfl rfl ?_
      refine wp_aload_n dX3_passWeek_73 rfl rfl ?_
      refine wn_callV0d dX3_passWeek_74 rRX3_97 (rcv_of (o11 hi) rfl) (Nat.le_of_ble_eq_true rfl)  (Nat.le_of_ble_eq_true rfl) rfl (c3_draw hi) ?_
      rw [h058]
      refine wp_aload_n dX3_passWeek_77 rfl rfl ?_
      refine wn_getI dX3_passWeek_78 fRX3_36 (o11 hi) rfl rfl ?_
      rw [sI_nk (show (6 : Nat) ≠ 15 by decide), show s58.1 (11, i, 0) 6 = wk1 f 1 from hM58.1.sc 1 (by decide)]
      refine wp_irem dX3_passWeek_81 (by rw [h158]; exact nI_ne0 hc0 (by omega)) rfl ?_
      rw [show ∀ x y : Int32, x - x / y * y = rm x y from fun _ _ => rfl]
      rw [hgI]
      refine wn_callV1n dX3_passWeek_82 rRX3_146 (rcv_of (o11 hi) rfl) (Nat.le_of_ble_eq_true rfl) rfl (Nat.le_of_ble_eq_true rfl) rfl (c3_sawByLot (g := g) hi hV74 hgc hq13 hq) (fun s82 hq82 => ?_)
      obtain ⟨hV82, hF82⟩ := hq82
      refine wp_aload_n dX3_passWeek_85 rfl rfl ?_
      refine wp_dup dX3_passWeek_86 rfl rfl ?_
      refine wn_getI dX3_passWeek_87 fRX3_61 (o11 hi) rfl rfl ?_
      rw [show s82.1 (11, i, 0) 14 = sw2 (upd (wk1 f) 0 (dz (wk1 f 0))) g 2 from hV82.1.sc 2 (by decide)]
      refine wp_iconst (v := 1) dX3_passWeek_90 (by decide) rfl ?_
      refine wp_iadd dX3_passWeek_91 rfl ?_
      refine wn_putI dX3_passWeek_92 fRX3_61 (o11 hi) rfl rfl rfl ?_
      refine wp_ret dX3_passWeek_95 rfl ?_
      have e2 : wk2 (wk1 f) = sw2 (upd (wk1 f) 0 (dz (wk1 f 0))) g := by rw [wk2_u, if_pos ⟨Int32.not_le.mp h62, Int32.not_le.mp h69⟩, swg_2, hgn]
      have hE : wek f = upd (sw2 (upd (wk1 f) 0 (dz (wk1 f 0))) g) 2 ((sw2 (upd (wk1 f) 0 (dz (wk1 f 0))) g) 2 + 1) := by
        show upd (wk2 (wk1 f)) 2 (wk2 (wk1 f) 2 + 1) = _
        rw [e2]
      have hFa := (((hF0.tr hF58).pt (Or.inr ⟨rfl, Or.inl rfl⟩)).tr hF82).pt (r := (11, i, 0)) (k := 14) (v := (sw2 (upd (wk1 f) 0 (dz (wk1 f 0))) g) 2 + 1) (Or.inr ⟨rfl, Or.inl rfl⟩)
      refine ⟨_, rfl, rfl, ⟨?_, ?_⟩, hFa⟩
      · rw [hE]
        exact ⟨RC.pt (q := ((11, i, 0), 14)) hV82.1 (show rc i 2 = _ from rfl) (by decide), by rw [sI_nk (by decide), mny_lo (by decide) (by decide)]; exact hV82.2.1, by rw [upd_ne (by decide)]; exact hV82.2.2.1, hc12⟩
      · exact hLw.cg (fun r hr => hFa.1 r (XR_law hr)) hFa.2 (fun k hk => wek_hi hW.1 hk)
end
