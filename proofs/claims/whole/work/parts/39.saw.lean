/-! THE PURE PART, 26: the class's saw -/
section
variable {d i : Nat}
/-- a river of the class stands for a row, between weeks -/
def RV (s : Sn) (i : Nat) (f : Fl) (c : Nat) : Prop := RC s i f ∧ s.1 (11, i, 0) 13 = nI (mny f 12) ∧ f 1 = nI c ∧ c ≤ 12
theorem mny_lo {f : Fl} {k : Nat} {w v : Int32} (h1 : k ≠ 1) (hk : k < 45) : mny (upd f k w) v = mny f v := mny_oth h1 (fun g => by omega)
/-- the saw's second draw -/
def sw2 (f1 : Fl) (g : Nat) : Fl := if f1 (45 + 5 * g + 3) < 12 then (if rm (dv (dz (f1 0))) 100 < clm (f1 (45 + 5 * g + 0)) (f1 5) then upd (upd (upd f1 0 (dz (f1 0))) (45 + 5 * g + 3) 13) 6 (f1 6 + 1) else upd f1 0 (dz (f1 0))) else f1
theorem swg_2 {f : Fl} : swg f = sw2 (upd f 0 (dz (f 0))) (rm (dv (dz (f 0))) (f 1)).toNatClampNeg := by
  rw [swg_u]
  unfold sw2
  dsimp only
  rw [upd_eq, upd_ne (show (5 : Nat) ≠ 0 by decide), upd_ne (show (6 : Nat) ≠ 0 by decide)]
  simp only [upd_ne (show (5 : Nat) ≠ 0 by decide), upd_ne (show (6 : Nat) ≠ 0 by decide), upd_ne (show 45 + 5 * (rm (dv (dz (f 0))) (f 1)).toNatClampNeg + 0 ≠ 0 by omega), upd_ne (show 45 + 5 * (rm (dv (dz (f 0))) (f 1)).toNatClampNeg + 3 ≠ 0 by omega), upd_ne (show 45 + 5 * (rm (dv (dz (f 0))) (f 1)).toNatClampNeg + 3 ≠ 6 by omega), upd_ne (show 6 ≠ 45 + 5 * (rm (dv (dz (f 0))) (f 1)).toNatClampNeg + 3 by omega)]
theorem c3_sawByLot {s : Sn} {f : Fl} {c g q : Nat} (hi : i < 4) (hV : RV s i f c) (hg : g < c) (hq13 : q ≤ 13) (hq : f (45 + 5 * g + 3) = nI q) : Ca (d + 2) MX3_sawByLot [vR 11 i 0, vI (nI g)] (hN s) (Pn fun t => RV t i (sw2 f g) c ∧ FQ (XR i) s t) := by
  change Wp _ _ 0 [some _, some _] [] _ _
  have hV0 := hV
  obtain ⟨hR, h13, h1, hc⟩ := hV0
  have hg12 : g < 12 := by omega
  have hcn : cn f = c := by unfold cn; rw [h1, nI_clamp (by omega)]
  have hlc : s.1 (11, i, 0) 6 - 1 = nI (c - 1) := by rw [show s.1 (11, i, 0) 6 = f 1 from hR.sc 1 (by decide), h1, show nI c = nI ((c - 1) + 1) by rw [show c - 1 + 1 = c by omega], nI_pred]
  have hE : s.1 (12, i, g) 3 = f (45 + 5 * g + 3) := hR.lg (by omega) hg12 (by decide)
  have hK : s.1 (12, i, g) 0 = f (45 + 5 * g + 0) := hR.lg (by omega) hg12 (by decide)
  have h0 : s.1 (11, i, 0) 15 = f 0 := hR.sc 0 (by decide)
  have hs5 : s.1 (11, i, 0) 10 = f 5 := hR.sc 5 (by decide)
  have h6 : s.1 (11, i, 0) 12 = f 6 := hR.sc 6 (by decide)
  refine wp_aload_n dX3_sawByLot_0 rfl rfl ?_
  refine wp_iload_n dX3_sawByLot_1 rfl rfl ?_
  refine wn_callV1d dX3_sawByLot_2 rRX3_169 (rcv_of (o11 hi) rfl) (Nat.le_of_ble_eq_true rfl) rfl (Nat.le_of_ble_eq_true rfl) rfl (c3_hasLog hi) ?_
  refine wp_if_eq_b (t := 64) dX3_sawByLot_5 rfl rfl (fun h5 => absurd ⟨⟨nI_pos' (by omega), by rw [hlc]; exact (nI_leI (by omega) (by omega)).mpr (by omega)⟩, (nI_ltI (b := 12) (by omega) (by omega)).mpr hg12⟩ h5) (fun h5 => ?_)
  refine wp_aload_n dX3_sawByLot_8 rfl rfl ?_
  refine wn_getR dX3_sawByLot_9 fRX3_11 (o11 hi) rfl rfl rfl ?_
  refine wp_iload_n dX3_sawByLot_12 rfl rfl ?_
  refine wn_aald13 dX3_sawByLot_13 hi (nIx rfl (by omega)) hg12 rfl ?_
  refine wn_callV0d dX3_sawByLot_14 rRX3_150 (rcv_of (o12 hi hg12) rfl) (Nat.le_of_ble_eq_true rfl)  (Nat.le_of_ble_eq_true rfl) rfl (c1_isAfloat hi hg12) ?_
  refine wp_if_eq_b (t := 64) dX3_sawByLot_17 rfl rfl (fun h17 => ?_) (fun h17 => ?_)
  · refine wp_ret dX3_sawByLot_64 rfl ?_
    have hn : ¬ f (45 + 5 * g + 3) < 12 := fun z => h17 ⟨by rw [hE, hq]; exact nI_pos' (by omega), by rw [hE]; exact z⟩
    refine ⟨_, rfl, rfl, ?_, FQ.rf⟩
    unfold sw2
    rw [if_neg hn]
    exact hV
  · refine wp_aload_n dX3_sawByLot_20 rfl rfl ?_
    refine wn_callV0d dX3_sawByLot_21 rRX3_97 (rcv_of (o11 hi) rfl) (Nat.le_of_ble_eq_true rfl)  (Nat.le_of_ble_eq_true rfl) rfl (c3_draw hi) ?_
    rw [h0]
    refine wp_bipush (v := 100) dX3_sawByLot_24 (by decide) rfl ?_
    refine wp_irem dX3_sawByLot_26 (by decide) rfl ?_
    rw [show ∀ x y : Int32, x - x / y * y = rm x y from fun _ _ => rfl]
    refine wp_aload_n dX3_sawByLot_27 rfl rfl ?_
    refine wn_getR dX3_sawByLot_28 fRX3_11 (o11 hi) rfl rfl rfl ?_
    refine wp_iload_n dX3_sawByLot_31 rfl rfl ?_
    refine wn_aald13 dX3_sawByLot_32 hi (nIx rfl (by omega)) hg12 rfl ?_
    refine wp_aload_n dX3_sawByLot_33 rfl rfl ?_
    refine wn_getI dX3_sawByLot_34 fRX3_49 (o11 hi) rfl rfl ?_
    refine wn_callV1d dX3_sawByLot_37 rRX3_172 (rcv_of (o12 hi hg12) rfl) (Nat.le_of_ble_eq_true rfl) rfl (Nat.le_of_ble_eq_true rfl) rfl (c1_claimedBy hi hg12) ?_
    rw [sI_nr (show ((12, i, g) : Rf) ≠ (11, i, 0) by intro z; exact absurd (congrArg Prod.fst z) (by show ¬ 12 = 11; decide)), sI_nk (show (10 : Nat) ≠ 15 by decide), hK, hs5]
    refine wp_icmp_ge (t := 64) dX3_sawByLot_40 rfl rfl (fun h40 => ?_) (fun h40 => ?_)
    · refine wp_ret dX3_sawByLot_64 rfl ?_
      have hn : f (45 + 5 * g + 3) < 12 := by rw [← hE]; exact h17.2
      refine ⟨_, rfl, rfl, ?_, FQ.rf.pt (Or.inr ⟨rfl, Or.inl rfl⟩)⟩
      unfold sw2
      rw [if_pos hn, if_neg (Int32.not_lt.mpr h40)]
      refine ⟨RC.pt (q := ((11, i, 0), 15)) hR (show rc i 0 = _ from rfl) (by decide), ?_, ?_, hc⟩
      · rw [sI_nk (by decide), mny_lo (by decide) (by decide)]; exact h13
      · rw [upd_ne (by decide)]; exact h1
    · refine wp_aload_n dX3_sawByLot_43 rfl rfl ?_
      refine wn_getR dX3_sawByLot_44 fRX3_11 (o11 hi) rfl rfl rfl ?_
      refine wp_iload_n dX3_sawByLot_47 rfl rfl ?_
      refine wn_aald13 dX3_sawByLot_48 hi (nIx rfl (by omega)) hg12 rfl ?_
      refine wp_bipush (v := 13) dX3_sawByLot_49 (by decide) rfl ?_
      refine wn_putI dX3_sawByLot_51 fRX3_91 (o12 hi hg12) rfl rfl rfl ?_
      refine wp_aload_n dX3_sawByLot_54 rfl rfl ?_
      refine wp_dup dX3_sawByLot_55 rfl rfl ?_
      refine wn_getI dX3_sawByLot_56 fRX3_55 (o11 hi) rfl rfl ?_
      rw [sI_nr (show ((11, i, 0) : Rf) ≠ (12, i, g) by intro z; exact absurd (congrArg Prod.fst z) (by show ¬ 11 = 12; decide)), sI_nk (show (12 : Nat) ≠ 15 by decide), h6]
      refine wp_iconst (v := 1) dX3_sawByLot_59 (by decide) rfl ?_
      refine wp_iadd dX3_sawByLot_60 rfl ?_
      refine wn_putI dX3_sawByLot_61 fRX3_55 (o11 hi) rfl rfl rfl ?_
      refine wp_ret dX3_sawByLot_64 rfl ?_
      have hn : f (45 + 5 * g + 3) < 12 := by rw [← hE]; exact h17.2
      refine ⟨_, rfl, rfl, ?_, ((FQ.rf.pt (Or.inr ⟨rfl, Or.inl rfl⟩)).pt (Or.inr ⟨rfl, Or.inr (Or.inl rfl)⟩)).pt (Or.inr ⟨rfl, Or.inl rfl⟩)⟩
      unfold sw2
      rw [if_pos hn, if_pos (Int32.not_le.mp h40)]
      refine ⟨RC.pt (q := ((11, i, 0), 12)) (RC.pt (q := ((12, i, g), 3)) (RC.pt (q := ((11, i, 0), 15)) hR (show rc i 0 = _ from rfl) (by decide)) (rc_lg (by decide)) (by omega)) (show rc i 6 = _ from rfl) (by decide), ?_, ?_, hc⟩
      · have hm := mny_upd (f := upd f 0 (dz (f 0))) (j := g) (w := 13) (v := 12) (by rw [cn_upd (by decide)]; omega)
        rw [if_neg (show ¬ (13 : Int32) = 12 by decide), upd_ne (show 45 + 5 * g + 3 ≠ 0 by omega), if_neg (fun z => absurd (z ▸ hn) (by decide)), mny_lo (f := f) (k := 0) (by decide) (by decide)] at hm
        rw [sI_nk (by decide), sI_nr (show ((11, i, 0) : Rf) ≠ (12, i, g) by intro z; exact absurd (congrArg Prod.fst z) (by show ¬ 11 = 12; decide)), sI_nk (by decide), mny_lo (by decide) (by decide), h13]
        congr 1
        omega
      · rw [upd_ne (by decide), upd_ne (by omega), upd_ne (by decide)]; exact h1
end
