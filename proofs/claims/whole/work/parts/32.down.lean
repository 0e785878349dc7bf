/-! THE PURE PART, 22: the class's river goes down -/
section
variable {d i : Nat}
theorem c3_draw {s : Sn} (hi : i < 4) : Ca d MX3_draw [vR 11 i 0] (hN s) (Pd (dv (dz (s.1 (11, i, 0) 15))) (sI s (11, i, 0) 15 (dz (s.1 (11, i, 0) 15)))) := by
  change Wp _ _ 0 [some _] [] _ _
  refine wp_aload_n dX3_draw_0 rfl rfl ?_
  refine wp_aload_n dX3_draw_1 rfl rfl ?_
  refine wn_getI dX3_draw_2 fRX3_64 (o11 hi) rfl rfl ?_
  refine wp_ldc dX3_draw_5 kRX3_116 rfl ?_
  refine wp_imul dX3_draw_7 rfl ?_
  refine wp_sipush (v := 12345) dX3_draw_8 (by decide) rfl ?_
  refine wp_iadd dX3_draw_11 rfl ?_
  refine wn_putI dX3_draw_12 fRX3_64 (o11 hi) rfl rfl rfl ?_
  refine wp_aload_n dX3_draw_15 rfl rfl ?_
  refine wn_getI dX3_draw_16 fRX3_64 (o11 hi) rfl rfl ?_
  rw [sI_eq]
  refine wp_bipush (v := 8) dX3_draw_19 (by decide) rfl ?_
  refine wp_iushr dX3_draw_21 rfl ?_
  refine wp_iret dX3_draw_22 rfl rfl ?_
  exact Pd.mk
theorem c3_hasLog {s : Sn} {g : Int32} (hi : i < 4) : Ca (d + 1) MX3_hasLog [vR 11 i 0, vI g] (hN s) (Pd (bI ((0 ≤ g ∧ g ≤ s.1 (11, i, 0) 6 - 1) ∧ g < 12)) s) := by
  change Wp _ _ 0 [some _, some _] [] _ _
  refine wp_iload_n dX3_hasLog_0 rfl rfl ?_
  refine wp_iconst (v := 0) dX3_hasLog_1 (by decide) rfl ?_
  refine wp_aload_n dX3_hasLog_2 rfl rfl ?_
  refine wn_getI dX3_hasLog_3 fRX3_36 (o11 hi) rfl rfl ?_
  refine wp_iconst (v := 1) dX3_hasLog_6 (by decide) rfl ?_
  refine wp_isub dX3_hasLog_7 rfl ?_
  refine wn_callS3d dX3_hasLog_8 rRX3_78 (Nat.le_of_ble_eq_true rfl) rfl rfl rfl (Nat.le_of_ble_eq_true rfl) rfl (c7_within) ?_
  refine wp_if_eq_b (t := 24) dX3_hasLog_11 rfl rfl (fun h11 => ?_) (fun h11 => ?_)
  · refine wp_iconst (v := 0) dX3_hasLog_24 (by decide) rfl ?_
    refine wp_iret dX3_hasLog_25 rfl (by decide) ?_
    refine ⟨_, _, rfl, rfl, ?_, rfl⟩
    exact (bI_f (fun z => h11 z.1)).symm
  · refine wp_iload_n dX3_hasLog_14 rfl rfl ?_
    refine wp_bipush (v := 12) dX3_hasLog_15 (by decide) rfl ?_
    refine wp_icmp_ge (t := 24) dX3_hasLog_17 rfl rfl (fun h17 => ?_) (fun h17 => ?_)
    · refine wp_iconst (v := 0) dX3_hasLog_24 (by decide) rfl ?_
      refine wp_iret dX3_hasLog_25 rfl (by decide) ?_
      refine ⟨_, _, rfl, rfl, ?_, rfl⟩
      exact (bI_f (fun z => absurd z.2 (Int32.not_lt.mpr h17))).symm
    · refine wp_iconst (v := 1) dX3_hasLog_20 (by decide) rfl ?_
      refine wp_goto (t := 25) dX3_hasLog_21 rfl ?_
      refine wp_iret dX3_hasLog_25 rfl (by decide) ?_
      refine ⟨_, _, rfl, rfl, ?_, rfl⟩
      exact (bI_t ⟨h11, Int32.not_le.mp h17⟩).symm
/-- may a log leave reach q, by what has been counted -/
def mayL (f : Fl) (q : Nat) : Prop := q < 12 ∧ f (33 + q) = 0 ∧ (q = 11 ∨ nI (mny f (nI (q + 1))) < f (21 + (q + 1)))
def mayLd (f : Fl) (q : Nat) : Decidable (mayL f q) := by unfold mayL; exact inferInstance
theorem c3_mayLeave {s : Sn} {f : Fl} {q : Nat} (hi : i < 4) (hR : RC s i f) (hH : HD s i f) (hq : q ≤ 13) (dc : Decidable (mayL f q)) : Ca (d + 1) MX3_mayLeave [vR 11 i 0, vI (nI q)] (hN s) (Pd (if mayL f q then 1 else 0) s) := by
  change Wp _ _ 0 [some _, some _, none] [] _ _
  refine wp_iload_n dX3_mayLeave_0 rfl rfl ?_
  refine wn_callS1d dX3_mayLeave_1 rRX3_166 (Nat.le_of_ble_eq_true rfl) rfl (Nat.le_of_ble_eq_true rfl) rfl (c7_isReach) ?_
  refine wp_if_eq_b (t := 16) dX3_mayLeave_4 rfl rfl (fun h4 => ?_) (fun h4 => ?_)
  · refine wp_iconst (v := 0) dX3_mayLeave_16 (by decide) rfl ?_
    refine wp_iret dX3_mayLeave_17 rfl (by decide) ?_
    refine ⟨_, _, rfl, rfl, ?_, rfl⟩
    exact (if_neg (fun z : mayL f q => h4 ⟨nI_pos' (by omega), (nI_ltI (b := 12) (by omega) (by omega)).mpr z.1⟩)).symm
  · have hq12 : q < 12 := (nI_ltI (b := 12) (by omega) (by omega)).mp h4.2
    refine wp_aload_n dX3_mayLeave_7 rfl rfl ?_
    refine wn_getR dX3_mayLeave_8 fRX3_21 (o11 hi) rfl rfl rfl ?_
    refine wp_iload_n dX3_mayLeave_11 rfl rfl ?_
    refine wn_iald dX3_mayLeave_12 (o15 hi) rfl (nIx rfl (by omega)) (show _ < 12 from hq12) rfl ?_
    rw [hR.bm hq12]
    refine wp_if_eq (t := 18) dX3_mayLeave_13 rfl rfl (fun h13 => ?_) (fun h13 => ?_)
    · refine wp_iload_n dX3_mayLeave_18 rfl rfl ?_
      refine wp_iconst (v := 1) dX3_mayLeave_19 (by decide) rfl ?_
      refine wp_iadd dX3_mayLeave_20 rfl ?_
      rw [nI_1]
      refine wp_istore_n (l' := [_, _, some _]) dX3_mayLeave_21 rfl rfl ?_
      refine wp_iload_n dX3_mayLeave_22 rfl rfl ?_
      refine wp_bipush (v := 12) dX3_mayLeave_23 (by decide) rfl ?_
      refine wp_icmp_eq (t := 43) dX3_mayLeave_25 rfl rfl (fun h25 => ?_) (fun h25 => ?_)
      · have hq11 : q = 11 := by have := (nI_eq (b := 12) (by omega) (by omega)).mp h25; omega
        refine wp_iconst (v := 1) dX3_mayLeave_43 (by decide) rfl ?_
        refine wp_goto (t := 48) dX3_mayLeave_44 rfl ?_
        refine wp_iret dX3_mayLeave_48 rfl (by decide) ?_
        refine ⟨_, _, rfl, rfl, ?_, rfl⟩
        exact (if_pos (show mayL f q from ⟨hq12, h13, Or.inl hq11⟩)).symm
      · have hq11 : ¬ q = 11 := fun z => h25 (by rw [z]; rfl)
        refine wp_aload_n dX3_mayLeave_28 rfl rfl ?_
        refine wn_getR dX3_mayLeave_29 fRX3_24 (o11 hi) rfl rfl rfl ?_
        refine wp_iload_n dX3_mayLeave_32 rfl rfl ?_
        refine wn_iald dX3_mayLeave_33 (o16 hi) rfl (nIx rfl (by omega)) (show _ < 12 by omega) rfl ?_
        rw [hH (q + 1) (by omega)]
        refine wp_aload_n dX3_mayLeave_34 rfl rfl ?_
        refine wn_getR dX3_mayLeave_35 fRX3_17 (o11 hi) rfl rfl rfl ?_
        refine wp_iload_n dX3_mayLeave_38 rfl rfl ?_
        refine wn_iald dX3_mayLeave_39 (o14 hi) rfl (nIx rfl (by omega)) (show _ < 12 by omega) rfl ?_
        rw [hR.rm (r := q + 1) (by omega)]
        refine wp_icmp_ge (t := 47) dX3_mayLeave_40 rfl rfl (fun h40 => ?_) (fun h40 => ?_)
        · refine wp_iconst (v := 0) dX3_mayLeave_47 (by decide) rfl ?_
          refine wp_iret dX3_mayLeave_48 rfl (by decide) ?_
          refine ⟨_, _, rfl, rfl, ?_, rfl⟩
          exact (if_neg (fun z : mayL f q => by rcases z.2.2 with z | z; exact hq11 z; exact absurd z (Int32.not_lt.mpr h40))).symm
        · refine wp_iconst (v := 1) dX3_mayLeave_43 (by decide) rfl ?_
          refine wp_goto (t := 48) dX3_mayLeave_44 rfl ?_
          refine wp_iret dX3_mayLeave_48 rfl (by decide) ?_
          refine ⟨_, _, rfl, rfl, ?_, rfl⟩
          exact (if_pos (show mayL f q from ⟨hq12, h13, Or.inr (Int32.not_le.mp h40)⟩)).symm
    · refine wp_iconst (v := 0) dX3_mayLeave_16 (by decide) rfl ?_
      refine wp_iret dX3_mayLeave_17 rfl (by decide) ?_
      refine ⟨_, _, rfl, rfl, ?_, rfl⟩
      exact (if_neg (fun z : mayL f q => h13 z.2.1)).symm
/-- a river in the middle of a week -/
def MW (s : Sn) (i : Nat) (f : Fl) (c : Nat) : Prop := RC s i f ∧ HD s i f ∧ s.1 (11, i, 0) 13 = nI (mny f 12) ∧ f 1 = nI c ∧ c ≤ 12
theorem stp_may {f : Fl} {g q : Nat} (hq : f (45 + 5 * g + 3) = nI q) (hq13 : q ≤ 13) : (¬ mayL f q → stp f g = (f, false)) ∧ (mayL f q → q = 11 → stp f g = (upd (upd f (45 + 5 * g + 4) (nI (mny f 12 + 1))) (45 + 5 * g + 3) (nI 12), false)) ∧ (mayL f q → q ≠ 11 → stp f g = (upd f (45 + 5 * g + 3) (nI (q + 1)), true)) := by
  have hiff : (nI q < 12 ∧ f (33 + (nI q).toNatClampNeg) = 0 ∧ (nI q = 11 ∨ nI (mny f (nI q + 1)) < f (21 + (nI q + 1).toNatClampNeg))) ↔ mayL f q := by
    unfold mayL
    rw [nI_clamp (by omega), nI_1, nI_clamp (by omega)]
    constructor
    · rintro ⟨h1, h2, h3⟩
      refine ⟨(nI_ltI (b := 12) (by omega) (by omega)).mp h1, h2, ?_⟩
      rcases h3 with h3 | h3
      · exact Or.inl ((nI_eq (b := 11) (by omega) (by omega)).mp h3)
      · exact Or.inr h3
    · rintro ⟨h1, h2, h3⟩
      refine ⟨(nI_ltI (b := 12) (by omega) (by omega)).mpr h1, h2, ?_⟩
      rcases h3 with h3 | h3
      · exact Or.inl (by rw [h3]; rfl)
      · exact Or.inr h3
  refine ⟨fun h => ?_, fun h e => ?_, fun h e => ?_⟩
  · unfold stp
    dsimp only
    rw [hq, if_neg (fun z => h (hiff.mp z))]
  · unfold stp
    dsimp only
    rw [hq, if_pos (hiff.mpr h), if_pos (by rw [e]; rfl), nI_1]
    rfl
  · unfold stp
    dsimp only
    rw [hq, if_pos (hiff.mpr h), if_neg (show ¬ nI q = 11 from fun z => e ((nI_eq (b := 11) (by omega) (by omega)).mp z)), nI_1]
theorem MW.on {s : Sn} {f : Fl} {c j q : Nat} (h : MW s i f c) (hj : j < c) (hq : f (45 + 5 * j + 3) = nI q) (hq11 : q < 11) : MW (sI (sI (sI s (16, i, 0) q (nI (mny f (nI q)) - 1)) (12, i, j) 3 (nI (q + 1))) (16, i, 0) (q + 1) (nI (mny f (nI (q + 1))) + 1)) i (upd f (45 + 5 * j + 3) (nI (q + 1))) c := by
  obtain ⟨hR, hH, h13, h1, hc⟩ := h
  have hcn : cn f = c := by unfold cn; rw [h1, nI_clamp (by omega)]
  have hjc : j < cn f := by omega
  have hm : ∀ v, mny (upd f (45 + 5 * j + 3) (nI (q + 1))) v + (if nI q = v then 1 else 0) = mny f v + (if nI (q + 1) = v then 1 else 0) := fun v => by
    have := mny_upd (f := f) (w := nI (q + 1)) (v := v) hjc
    rwa [hq] at this
  refine ⟨?_, fun r hr => ?_, ?_, by rw [upd_ne (by omega)]; exact h1, hc⟩
  · exact RC.ot (RC.pt (q := ((12, i, j), 3)) (RC.ot hR (fun k => rc_ne (Or.inl (by show ¬ (16 = 11 ∨ 16 = 17 ∨ 16 = 14 ∨ 16 = 15 ∨ 16 = 12); decide)))) (rc_lg (by decide)) (by omega)) (fun k => rc_ne (Or.inl (by show ¬ (16 = 11 ∨ 16 = 17 ∨ 16 = 14 ∨ 16 = 15 ∨ 16 = 12); decide)))
  · have hm2 := hm (nI r)
    rw [sI_row]
    by_cases e1 : r = q + 1
    · subst e1
      rw [upd_eq]
      rw [if_neg (fun z => by have := (nI_eq (by omega) (by omega)).mp z; omega), if_pos rfl] at hm2
      rw [nI_1, ← hm2]
      rfl
    · rw [upd_ne e1, sI_nr (show ((16, i, 0) : Rf) ≠ (12, i, j) by intro z; exact absurd (congrArg Prod.fst z) (by show ¬ 16 = 12; decide)), sI_row]
      by_cases e2 : r = q
      · subst e2
        rw [upd_eq]
        rw [if_pos rfl, if_neg (fun z => by have := (nI_eq (by omega) (by omega)).mp z; omega)] at hm2
        have hm3 : mny f (nI r) = mny (upd f (45 + 5 * j + 3) (nI (r + 1))) (nI r) + 1 := by omega
        rw [hm3, nI_pred]
      · rw [upd_ne e2, hH r hr]
        rw [if_neg (fun z => by have := (nI_eq (by omega) (by omega)).mp z; omega), if_neg (fun z => by have := (nI_eq (by omega) (by omega)).mp z; omega)] at hm2
        rw [show mny f (nI r) = mny (upd f (45 + 5 * j + 3) (nI (q + 1))) (nI r) by omega]
  · have hm2 := hm 12
    rw [if_neg (fun z => by have := (nI_eq (b := 12) (by omega) (by omega)).mp z; omega), if_neg (fun z => by have := (nI_eq (b := 12) (by omega) (by omega)).mp z; omega)] at hm2
    rw [sI_nr (show ((11, i, 0) : Rf) ≠ (16, i, 0) by intro z; exact absurd (congrArg Prod.fst z) (by show ¬ 11 = 16; decide)), sI_nr (show ((11, i, 0) : Rf) ≠ (12, i, j) by intro z; exact absurd (congrArg Prod.fst z) (by show ¬ 11 = 12; decide)), sI_nr (show ((11, i, 0) : Rf) ≠ (16, i, 0) by intro z; exact absurd (congrArg Prod.fst z) (by show ¬ 11 = 16; decide)), h13, show mny f 12 = mny (upd f (45 + 5 * j + 3) (nI (q + 1))) 12 by omega]
theorem MW.cm {s : Sn} {f : Fl} {c j : Nat} (h : MW s i f c) (hj : j < c) (hq : f (45 + 5 * j + 3) = nI 11) : MW (sI (sI (sI (sI s (16, i, 0) 11 (nI (mny f (nI 11)) - 1)) (12, i, j) 3 (nI 12)) (11, i, 0) 13 (nI (mny f 12 + 1))) (12, i, j) 4 (nI (mny f 12 + 1))) i (upd (upd f (45 + 5 * j + 4) (nI (mny f 12 + 1))) (45 + 5 * j + 3) (nI 12)) c := by
  obtain ⟨hR, hH, h13, h1, hc⟩ := h
  have hcn : cn f = c := by unfold cn; rw [h1, nI_clamp (by omega)]
  have hjc : j < cn (upd f (45 + 5 * j + 4) (nI (mny f 12 + 1))) := by rw [cn_upd (by omega)]; omega
  have hm : ∀ v, mny (upd (upd f (45 + 5 * j + 4) (nI (mny f 12 + 1))) (45 + 5 * j + 3) (nI 12)) v + (if nI 11 = v then 1 else 0) = mny f v + (if nI 12 = v then 1 else 0) := fun v => by
    have h2 := mny_upd (f := upd f (45 + 5 * j + 4) (nI (mny f 12 + 1))) (w := nI 12) (v := v) hjc
    have ho : mny (upd f (45 + 5 * j + 4) (nI (mny f 12 + 1))) v = mny f v := mny_oth (by omega) (fun g => by omega)
    rw [upd_ne (show 45 + 5 * j + 3 ≠ 45 + 5 * j + 4 by omega), hq, ho] at h2
    exact h2
  have hcomm : upd (upd f (45 + 5 * j + 4) (nI (mny f 12 + 1))) (45 + 5 * j + 3) (nI 12) = upd (upd f (45 + 5 * j + 3) (nI 12)) (45 + 5 * j + 4) (nI (mny f 12 + 1)) := by
    funext k
    unfold upd
    by_cases e3 : k = 45 + 5 * j + 3
    · rw [if_pos e3, if_neg (by omega), if_pos e3]
    · rw [if_neg e3]
      by_cases e4 : k = 45 + 5 * j + 4
      · rw [if_pos e4, if_pos e4]
      · rw [if_neg e4, if_neg e4, if_neg e3]
  refine ⟨?_, fun r hr => ?_, ?_, by rw [upd_ne (by omega), upd_ne (by omega)]; exact h1, hc⟩
  · rw [hcomm]
    refine RC.pt (q := ((12, i, j), 4)) (RC.ot (RC.pt (q := ((12, i, j), 3)) (RC.ot hR (fun k => rc_ne (Or.inl (by show ¬ (16 = 11 ∨ 16 = 17 ∨ 16 = 14 ∨ 16 = 15 ∨ 16 = 12); decide)))) (rc_lg (by decide)) (by omega)) (fun k => rc_13)) (rc_lg (by decide)) (by omega)
  · have hm2 := hm (nI r)
    rw [sI_nr (show ((16, i, 0) : Rf) ≠ (12, i, j) by intro z; exact absurd (congrArg Prod.fst z) (by show ¬ 16 = 12; decide)), sI_nr (show ((16, i, 0) : Rf) ≠ (11, i, 0) by intro z; exact absurd (congrArg Prod.fst z) (by show ¬ 16 = 11; decide)), sI_nr (show ((16, i, 0) : Rf) ≠ (12, i, j) by intro z; exact absurd (congrArg Prod.fst z) (by show ¬ 16 = 12; decide)), sI_row]
    rw [if_neg (show ¬ nI 12 = nI r from fun z => by have := (nI_eq (by omega) (by omega)).mp z; omega)] at hm2
    by_cases e2 : r = 11
    · subst e2
      rw [upd_eq]
      rw [if_pos rfl] at hm2
      rw [show mny f (nI 11) = mny (upd (upd f (45 + 5 * j + 4) (nI (mny f 12 + 1))) (45 + 5 * j + 3) (nI 12)) (nI 11) + 1 by omega, nI_pred]
    · rw [upd_ne e2, hH r hr]
      rw [if_neg (fun z => by have := (nI_eq (by omega) (by omega)).mp z; omega)] at hm2
      rw [show mny f (nI r) = mny (upd (upd f (45 + 5 * j + 4) (nI (mny f 12 + 1))) (45 + 5 * j + 3) (nI 12)) (nI r) by omega]
  · have hm2 := hm 12
    rw [if_neg (show ¬ nI 11 = 12 by decide), if_pos (show nI 12 = 12 from rfl)] at hm2
    rw [sI_nr (show ((11, i, 0) : Rf) ≠ (12, i, j) by intro z; exact absurd (congrArg Prod.fst z) (by show ¬ 11 = 12; decide)), sI_eq]
    rw [show mny (upd (upd f (45 + 5 * j + 4) (nI (mny f 12 + 1))) (45 + 5 * j + 3) (nI 12)) 12 = mny f 12 + 1 by omega]
theorem l3_carry {j c m : Nat} (hi : i < 4) (hj : j < c) (hj12 : j < 12) (hm : m ≤ 13) : ∀ k, k ≤ m → ∀ (s1 : Sn) (f : Fl), MW s1 i f c → ∀ q, q ≤ 13 → f (45 + 5 * j + 3) = nI q → Wp (d + 2) MX3_carry 2 [some (vR 11 i 0), some (vR 12 i j), some (vI (nI m)), some (vI (nI k))] [] (hN s1) (Pn fun t => MW t i (gdn j (m - k) f) c ∧ FQ (XR i) s1 t) := by
  refine ind_up (fun k hk ih => ?_)
  intro s1 f hM q hq13 hq
  have hM0 := hM
  obtain ⟨hR, hH, h13, h1, hc⟩ := hM0
  have hcn : cn f = c := by unfold cn; rw [h1, nI_clamp (by omega)]
  have hrd : s1.1 (12, i, j) 3 = nI q := (hR.lg (by omega) hj12 (by decide)).trans hq
  refine wp_iload_n dX3_carry_2 rfl rfl ?_
  refine wp_iload_n dX3_carry_3 rfl rfl ?_
  refine wp_icmp_ge (t := 90) dX3_carry_4 rfl rfl (fun h4 => ?_) (fun h4 => ?_)
  · refine wp_ret dX3_carry_90 rfl ?_
    have hkm : k = m := by have := (nI_leI (by omega) (by omega)).mp h4; omega
    subst hkm
    exact ⟨_, rfl, rfl, by rw [Nat.sub_self]; exact hM, FQ.rf⟩
  · have hl : k < m := by have := mt (nI_leI (by omega) (by omega)).mpr h4; omega
    refine wp_aload_n dX3_carry_7 rfl rfl ?_
    refine wp_aload_n dX3_carry_8 rfl rfl ?_
    refine wn_getI dX3_carry_9 fRX3_91 (o12 hi hj12) rfl rfl ?_
    rw [hrd]
    refine wn_callV1d dX3_carry_12 rRX3_162 (rcv_of (o11 hi) rfl) (Nat.le_of_ble_eq_true rfl) rfl (Nat.le_of_ble_eq_true rfl) rfl (c3_mayLeave hi hR hH hq13 (mayLd f q)) ?_
    refine wp_if_eq (t := 90) dX3_carry_15 rfl rfl (fun h15 => ?_) (fun h15 => ?_)
    · refine wp_ret dX3_carry_90 rfl ?_
      have h15 : ¬ mayL f q := fun z => by rw [if_pos z] at h15; exact absurd h15 (by decide)
      refine ⟨_, rfl, rfl, ?_, FQ.rf⟩
      rw [show m - k = (m - (k + 1)) + 1 by omega, gdn, (stp_may hq hq13).1 h15]
      exact hM
    · have h15 : mayL f q := Decidable.byContradiction (dec := mayLd f q) fun z => h15 (by rw [if_neg z])
      have hq12 : q < 12 := h15.1
      refine wp_aload_n dX3_carry_18 rfl rfl ?_
      refine wn_getR dX3_carry_19 fRX3_24 (o11 hi) rfl rfl rfl ?_
      refine wp_aload_n dX3_carry_22 rfl rfl ?_
      refine wn_getI dX3_carry_23 fRX3_91 (o12 hi hj12) rfl rfl ?_
      rw [hrd]
      refine wp_dup2 dX3_carry_26 rfl rfl rfl ?_
      refine wn_iald dX3_carry_27 (o16 hi) rfl (nIx rfl (by omega)) (show _ < 12 from hq12) rfl ?_
      rw [hH q hq12]
      refine wp_iconst (v := 1) dX3_carry_28 (by decide) rfl ?_
      refine wp_isub dX3_carry_29 rfl ?_
      refine wn_iast dX3_carry_30 (o16 hi) rfl (nIx rfl (by omega)) (show _ < 12 from hq12) rfl ?_
      refine wp_aload_n dX3_carry_31 rfl rfl ?_
      refine wp_dup dX3_carry_32 rfl rfl ?_
      refine wn_getI dX3_carry_33 fRX3_91 (o12 hi hj12) rfl rfl ?_
      rw [sI_nr (show ((12, i, j) : Rf) ≠ (16, i, 0) by intro z; exact absurd (congrArg Prod.fst z) (by show ¬ 12 = 16; decide)), hrd]
      refine wp_iconst (v := 1) dX3_carry_36 (by decide) rfl ?_
      refine wp_iadd dX3_carry_37 rfl ?_
      rw [nI_1]
      refine wn_putI dX3_carry_38 fRX3_91 (o12 hi hj12) rfl rfl rfl ?_
      refine wp_aload_n dX3_carry_41 rfl rfl ?_
      refine wn_getI dX3_carry_42 fRX3_91 (o12 hi hj12) rfl rfl ?_
      rw [sI_eq]
      refine wp_bipush (v := 12) dX3_carry_45 (by decide) rfl ?_
      refine wp_icmp_ne (t := 71) dX3_carry_47 rfl rfl (fun h47 => ?_) (fun h47 => ?_)
      · refine wp_aload_n dX3_carry_71 rfl rfl ?_
        refine wn_getR dX3_carry_72 fRX3_24 (o11 hi) rfl rfl rfl ?_
        refine wp_aload_n dX3_carry_75 rfl rfl ?_
        refine wn_getI dX3_carry_76 fRX3_91 (o12 hi hj12) rfl rfl ?_
        rw [sI_eq]
        refine wp_dup2 dX3_carry_79 rfl rfl rfl ?_
        refine wn_iald dX3_carry_80 (o16 hi) rfl (nIx rfl (by omega)) (show _ < 12 by have : q ≠ 11 := fun z => h47 (by rw [z]; rfl); omega) rfl ?_
        rw [sI_nr (show ((16, i, 0) : Rf) ≠ (12, i, j) by intro z; exact absurd (congrArg Prod.fst z) (by show ¬ 16 = 12; decide)), sI_row, upd_ne (by omega), hH (q + 1) (by have : q ≠ 11 := fun z => h47 (by rw [z]; rfl); omega)]
        refine wp_iconst (v := 1) dX3_carry_81 (by decide) rfl ?_
        refine wp_iadd dX3_carry_82 rfl ?_
        refine wn_iast dX3_carry_83 (o16 hi) rfl (nIx rfl (by omega)) (show _ < 12 by have : q ≠ 11 := fun z => h47 (by rw [z]; rfl); omega) rfl ?_
        refine wp_iinc (l' := [_, _, _, some _]) (v := 1) dX3_carry_84 rfl (by decide) rfl rfl ?_
        refine wp_goto (t := 2) dX3_carry_87 rfl ?_
        rw [nI_1]
        have hq11 : q ≠ 11 := fun z => h47 (by rw [z]; rfl)
        have hq1 : q < 11 := by omega
        have hM2 := hM.on hj hq hq1
        have hF2 : FQ (XR i) s1 (sI (sI (sI s1 (16, i, 0) q (nI (mny f (nI q)) - 1)) (12, i, j) 3 (nI (q + 1))) (16, i, 0) (q + 1) (nI (mny f (nI (q + 1))) + 1)) := ((FQ.rf.pt (Or.inr ⟨rfl, Or.inr (Or.inr rfl)⟩)).pt (Or.inr ⟨rfl, Or.inr (Or.inl rfl)⟩)).pt (Or.inr ⟨rfl, Or.inr (Or.inr rfl)⟩)
        refine (ih hl _ _ hM2 (q + 1) (by omega) (upd_eq)).conseq ?_
        rintro v σ1 ⟨t, rfl, rfl, hMt, hFt⟩
        refine ⟨_, rfl, rfl, ?_, hF2.tr hFt⟩
        rw [show m - k = (m - (k + 1)) + 1 by omega, gdn, (stp_may hq hq13).2.2 h15 hq11]
        exact hMt
      · have hq11 : q = 11 := by have := (nI_eq (b := 12) (by omega) (by omega)).mp h47; omega
        subst hq11
        refine wp_aload_n dX3_carry_50 rfl rfl ?_
        refine wp_dup dX3_carry_51 rfl rfl ?_
        refine wn_getI dX3_carry_52 fRX3_58 (o11 hi) rfl rfl ?_
        rw [sI_nr (show ((11, i, 0) : Rf) ≠ (12, i, j) by intro z; exact absurd (congrArg Prod.fst z) (by show ¬ 11 = 12; decide)), sI_nr (show ((11, i, 0) : Rf) ≠ (16, i, 0) by intro z; exact absurd (congrArg Prod.fst z) (by show ¬ 11 = 16; decide)), h13]
        refine wp_iconst (v := 1) dX3_carry_55 (by decide) rfl ?_
        refine wp_iadd dX3_carry_56 rfl ?_
        rw [nI_1]
        refine wn_putI dX3_carry_57 fRX3_58 (o11 hi) rfl rfl rfl ?_
        refine wp_aload_n dX3_carry_60 rfl rfl ?_
        refine wp_aload_n dX3_carry_61 rfl rfl ?_
        refine wn_getI dX3_carry_62 fRX3_58 (o11 hi) rfl rfl ?_
        rw [sI_eq]
        refine wn_putI dX3_carry_65 fRX3_94 (o12 hi hj12) rfl rfl rfl ?_
        refine wp_goto (t := 84) dX3_carry_68 rfl ?_
        refine wp_iinc (l' := [_, _, _, some _]) (v := 1) dX3_carry_84 rfl (by decide) rfl rfl ?_
        refine wp_goto (t := 2) dX3_carry_87 rfl ?_
        rw [nI_1]
        have hM2 := hM.cm hj hq
        have hF2 : FQ (XR i) s1 (sI (sI (sI (sI s1 (16, i, 0) 11 (nI (mny f (nI 11)) - 1)) (12, i, j) 3 (nI 12)) (11, i, 0) 13 (nI (mny f 12 + 1))) (12, i, j) 4 (nI (mny f 12 + 1))) := (((FQ.rf.pt (Or.inr ⟨rfl, Or.inr (Or.inr rfl)⟩)).pt (Or.inr ⟨rfl, Or.inr (Or.inl rfl)⟩)).pt (Or.inr ⟨rfl, Or.inl rfl⟩)).pt (Or.inr ⟨rfl, Or.inr (Or.inl rfl)⟩)
        refine (ih hl _ _ hM2 12 (by decide) upd_eq).conseq ?_
        rintro v σ1 ⟨t, rfl, rfl, hMt, hFt⟩
        refine ⟨_, rfl, rfl, ?_, hF2.tr hFt⟩
        rw [show m - k = (m - (k + 1)) + 1 by omega, gdn, (stp_may hq hq13).2.1 h15 rfl]
        have e9 : ∀ n, gdn j n (upd (upd f (45 + 5 * j + 4) (nI (mny f 12 + 1))) (45 + 5 * j + 3) (nI 12)) = upd (upd f (45 + 5 * j + 4) (nI (mny f 12 + 1))) (45 + 5 * j + 3) (nI 12) := fun n => by
          cases n with
          | zero => rfl
          | succ n => rw [gdn, (stp_may (q := 12) upd_eq (by decide)).1 (fun z => absurd z.1 (by decide))]; rfl
        rw [e9] at hMt
        exact hMt
end
