/-! THE PURE PART, 30: a river takes another over -/
section
variable {d i j : Nat}
theorem cpy12 {a b : Nat → Int32} {q : Nat} (h : q < 12) : va_cpy a b 0 0 12 q = a q := by
  unfold va_cpy
  rw [if_pos ⟨Nat.zero_le _, by omega⟩, Nat.zero_add, Nat.sub_zero]
theorem c3_takeOver {s : Sn} (hi : i < 4) (hj : j < 4) (hij : i ≠ j) (hA : ∀ t, t < 14 → ∀ n, s.2.1 j t = some n → n < s.2.2.2.1) : Ca (d + 1) MX3_takeOver [vR 11 i 0, vR 11 j 0] (hN s) (Pn fun t => (∀ q, 6 ≤ q → q ≤ 15 → t.1 (11, i, 0) q = s.1 (11, j, 0) q) ∧ (∀ q, q < 12 → t.1 (14, i, 0) q = s.1 (14, j, 0) q) ∧ (∀ q, q < 12 → t.1 (15, i, 0) q = s.1 (15, j, 0) q) ∧ (∀ q, q < 12 → t.1 (17, i, 0) q = s.1 (17, j, 0) q) ∧ (∀ g, g < 12 → ∀ w, w < 5 → t.1 (12, i, g) w = s.1 (12, j, g) w) ∧ (∀ r, ¬ XT i r → t.1 r = s.1 r) ∧ t.2 = (tkW s i j 14).2) := by
  change Wp _ _ 0 [some _, some _, none] [] _ _
  have hne : ((11, j, 0) : Rf) ≠ (11, i, 0) := fun z => hij (congrArg (fun r : Rf => r.2.1) z).symm
  refine wp_aload_n dX3_takeOver_0 rfl rfl ?_
  refine wp_aload_n dX3_takeOver_1 rfl rfl ?_
  refine wn_getI dX3_takeOver_2 fRX3_36 (o11 hj) rfl rfl ?_
  refine wn_putI dX3_takeOver_5 fRX3_36 (o11 hi) rfl rfl rfl ?_
  refine wp_aload_n dX3_takeOver_8 rfl rfl ?_
  refine wp_aload_n dX3_takeOver_9 rfl rfl ?_
  refine wn_getI dX3_takeOver_10 fRX3_40 (o11 hj) rfl rfl ?_
  rw [sI_nr hne]
  refine wn_putI dX3_takeOver_13 fRX3_40 (o11 hi) rfl rfl rfl ?_
  refine wp_aload_n dX3_takeOver_16 rfl rfl ?_
  refine wp_aload_n dX3_takeOver_17 rfl rfl ?_
  refine wn_getI dX3_takeOver_18 fRX3_43 (o11 hj) rfl rfl ?_
  rw [sI_nr hne, sI_nr hne]
  refine wn_putI dX3_takeOver_21 fRX3_43 (o11 hi) rfl rfl rfl ?_
  refine wp_aload_n dX3_takeOver_24 rfl rfl ?_
  refine wp_aload_n dX3_takeOver_25 rfl rfl ?_
  refine wn_getI dX3_takeOver_26 fRX3_46 (o11 hj) rfl rfl ?_
  rw [sI_nr hne, sI_nr hne, sI_nr hne]
  refine wn_putI dX3_takeOver_29 fRX3_46 (o11 hi) rfl rfl rfl ?_
  refine wp_aload_n dX3_takeOver_32 rfl rfl ?_
  refine wp_aload_n dX3_takeOver_33 rfl rfl ?_
  refine wn_getI dX3_takeOver_34 fRX3_49 (o11 hj) rfl rfl ?_
  rw [sI_nr hne, sI_nr hne, sI_nr hne, sI_nr hne]
  refine wn_putI dX3_takeOver_37 fRX3_49 (o11 hi) rfl rfl rfl ?_
  refine wp_aload_n dX3_takeOver_40 rfl rfl ?_
  refine wp_aload_n dX3_takeOver_41 rfl rfl ?_
  refine wn_getI dX3_takeOver_42 fRX3_52 (o11 hj) rfl rfl ?_
  rw [sI_nr hne, sI_nr hne, sI_nr hne, sI_nr hne, sI_nr hne]
  refine wn_putI dX3_takeOver_45 fRX3_52 (o11 hi) rfl rfl rfl ?_
  refine wp_aload_n dX3_takeOver_48 rfl rfl ?_
  refine wp_aload_n dX3_takeOver_49 rfl rfl ?_
  refine wn_getI dX3_takeOver_50 fRX3_55 (o11 hj) rfl rfl ?_
  rw [sI_nr hne, sI_nr hne, sI_nr hne, sI_nr hne, sI_nr hne, sI_nr hne]
  refine wn_putI dX3_takeOver_53 fRX3_55 (o11 hi) rfl rfl rfl ?_
  refine wp_aload_n dX3_takeOver_56 rfl rfl ?_
  refine wp_aload_n dX3_takeOver_57 rfl rfl ?_
  refine wn_getI dX3_takeOver_58 fRX3_58 (o11 hj) rfl rfl ?_
  rw [sI_nr hne, sI_nr hne, sI_nr hne, sI_nr hne, sI_nr hne, sI_nr hne, sI_nr hne]
  refine wn_putI dX3_takeOver_61 fRX3_58 (o11 hi) rfl rfl rfl ?_
  refine wp_aload_n dX3_takeOver_64 rfl rfl ?_
  refine wp_aload_n dX3_takeOver_65 rfl rfl ?_
  refine wn_getI dX3_takeOver_66 fRX3_61 (o11 hj) rfl rfl ?_
  rw [sI_nr hne, sI_nr hne, sI_nr hne, sI_nr hne, sI_nr hne, sI_nr hne, sI_nr hne, sI_nr hne]
  refine wn_putI dX3_takeOver_69 fRX3_61 (o11 hi) rfl rfl rfl ?_
  refine wp_aload_n dX3_takeOver_72 rfl rfl ?_
  refine wp_aload_n dX3_takeOver_73 rfl rfl ?_
  refine wn_getI dX3_takeOver_74 fRX3_64 (o11 hj) rfl rfl ?_
  rw [sI_nr hne, sI_nr hne, sI_nr hne, sI_nr hne, sI_nr hne, sI_nr hne, sI_nr hne, sI_nr hne, sI_nr hne]
  refine wn_putI dX3_takeOver_77 fRX3_64 (o11 hi) rfl rfl rfl ?_
  have hX : (fun r : Rf => r = (11, i, 0)) (11, i, 0) := rfl
  have hC0 : FQ (fun r : Rf => r = (11, i, 0)) s (sI (sI (sI (sI (sI (sI (sI (sI (sI (sI s (11, i, 0) 6 (s.1 (11, j, 0) 6)) (11, i, 0) 7 (s.1 (11, j, 0) 7)) (11, i, 0) 8 (s.1 (11, j, 0) 8)) (11, i, 0) 9 (s.1 (11, j, 0) 9)) (11, i, 0) 10 (s.1 (11, j, 0) 10)) (11, i, 0) 11 (s.1 (11, j, 0) 11)) (11, i, 0) 12 (s.1 (11, j, 0) 12)) (11, i, 0) 13 (s.1 (11, j, 0) 13)) (11, i, 0) 14 (s.1 (11, j, 0) 14)) (11, i, 0) 15 (s.1 (11, j, 0) 15)) := (((((((((FQ.pt (X := fun r : Rf => r = (11, i, 0)) FQ.rf hX).pt hX).pt hX).pt hX).pt hX).pt hX).pt hX).pt hX).pt hX).pt hX
  have hA0 : ∀ q, 6 ≤ q → q ≤ 15 → (sI (sI (sI (sI (sI (sI (sI (sI (sI (sI s (11, i, 0) 6 (s.1 (11, j, 0) 6)) (11, i, 0) 7 (s.1 (11, j, 0) 7)) (11, i, 0) 8 (s.1 (11, j, 0) 8)) (11, i, 0) 9 (s.1 (11, j, 0) 9)) (11, i, 0) 10 (s.1 (11, j, 0) 10)) (11, i, 0) 11 (s.1 (11, j, 0) 11)) (11, i, 0) 12 (s.1 (11, j, 0) 12)) (11, i, 0) 13 (s.1 (11, j, 0) 13)) (11, i, 0) 14 (s.1 (11, j, 0) 14)) (11, i, 0) 15 (s.1 (11, j, 0) 15)).1 (11, i, 0) q = s.1 (11, j, 0) q := fun q h6 h15 => by
    rw [sI_row, sI_row, sI_row, sI_row, sI_row, sI_row, sI_row, sI_row, sI_row, sI_row]
    exact upd_cp fun h115 => upd_cp fun h114 => upd_cp fun h113 => upd_cp fun h112 => upd_cp fun h111 => upd_cp fun h110 => upd_cp fun h109 => upd_cp fun h108 => upd_cp fun h107 => upd_cp fun h106 => by omega
  generalize (sI (sI (sI (sI (sI (sI (sI (sI (sI (sI s (11, i, 0) 6 (s.1 (11, j, 0) 6)) (11, i, 0) 7 (s.1 (11, j, 0) 7)) (11, i, 0) 8 (s.1 (11, j, 0) 8)) (11, i, 0) 9 (s.1 (11, j, 0) 9)) (11, i, 0) 10 (s.1 (11, j, 0) 10)) (11, i, 0) 11 (s.1 (11, j, 0) 11)) (11, i, 0) 12 (s.1 (11, j, 0) 12)) (11, i, 0) 13 (s.1 (11, j, 0) 13)) (11, i, 0) 14 (s.1 (11, j, 0) 14)) (11, i, 0) 15 (s.1 (11, j, 0) 15)) = u0 at hC0 hA0 ⊢
  refine wp_aload_n dX3_takeOver_80 rfl rfl ?_
  refine wn_getR dX3_takeOver_81 fRX3_17 (o11 hj) rfl rfl rfl ?_
  refine wp_iconst (v := 0) dX3_takeOver_84 (by decide) rfl ?_
  refine wp_aload_n dX3_takeOver_85 rfl rfl ?_
  refine wn_getR dX3_takeOver_86 fRX3_17 (o11 hi) rfl rfl rfl ?_
  refine wp_iconst (v := 0) dX3_takeOver_89 (by decide) rfl ?_
  refine wp_bipush (v := 12) dX3_takeOver_90 (by decide) rfl ?_
  refine wn_acopy dX3_takeOver_92 rRX3_68 (o14 hi) (o14 hj) rfl rfl (N := 12) (D := 0) (S := 0) ⟨by decide, by decide⟩ ⟨by decide, by decide⟩ ⟨by decide, by decide⟩ (Nat.le_of_ble_eq_true rfl) (Nat.le_of_ble_eq_true rfl) (by omega) (Nat.le_of_ble_eq_true rfl) rfl ?_
  have hB1 : ∀ q, q < 12 → (sV u0 (14, i, 0) (va_cpy (u0.1 (14, j, 0)) (u0.1 (14, i, 0)) 0 0 12)).1 (14, i, 0) q = u0.1 (14, j, 0) q := fun q hq => by rw [sV_eq, cpy12 hq]
  have hC1 : FQ (fun r : Rf => r = (14, i, 0)) u0 (sV u0 (14, i, 0) (va_cpy (u0.1 (14, j, 0)) (u0.1 (14, i, 0)) 0 0 12)) := FQ.vt (X := fun r : Rf => r = (14, i, 0)) FQ.rf rfl
  generalize (sV u0 (14, i, 0) (va_cpy (u0.1 (14, j, 0)) (u0.1 (14, i, 0)) 0 0 12)) = u1 at hB1 hC1 ⊢
  refine wp_aload_n dX3_takeOver_95 rfl rfl ?_
  refine wn_getR dX3_takeOver_96 fRX3_21 (o11 hj) rfl rfl rfl ?_
  refine wp_iconst (v := 0) dX3_takeOver_99 (by decide) rfl ?_
  refine wp_aload_n dX3_takeOver_100 rfl rfl ?_
  refine wn_getR dX3_takeOver_101 fRX3_21 (o11 hi) rfl rfl rfl ?_
  refine wp_iconst (v := 0) dX3_takeOver_104 (by decide) rfl ?_
  refine wp_bipush (v := 12) dX3_takeOver_105 (by decide) rfl ?_
  refine wn_acopy dX3_takeOver_107 rRX3_68 (o15 hi) (o15 hj) rfl rfl (N := 12) (D := 0) (S := 0) ⟨by decide, by decide⟩ ⟨by decide, by decide⟩ ⟨by decide, by decide⟩ (Nat.le_of_ble_eq_true rfl) (Nat.le_of_ble_eq_true rfl) (by omega) (Nat.le_of_ble_eq_true rfl) rfl ?_
  have hB2 : ∀ q, q < 12 → (sV u1 (15, i, 0) (va_cpy (u1.1 (15, j, 0)) (u1.1 (15, i, 0)) 0 0 12)).1 (15, i, 0) q = u1.1 (15, j, 0) q := fun q hq => by rw [sV_eq, cpy12 hq]
  have hC2 : FQ (fun r : Rf => r = (15, i, 0)) u1 (sV u1 (15, i, 0) (va_cpy (u1.1 (15, j, 0)) (u1.1 (15, i, 0)) 0 0 12)) := FQ.vt (X := fun r : Rf => r = (15, i, 0)) FQ.rf rfl
  generalize (sV u1 (15, i, 0) (va_cpy (u1.1 (15, j, 0)) (u1.1 (15, i, 0)) 0 0 12)) = u2 at hB2 hC2 ⊢
  refine wp_aload_n dX3_takeOver_110 rfl rfl ?_
  refine wn_getR dX3_takeOver_111 fRX3_27 (o11 hj) rfl rfl rfl ?_
  refine wp_iconst (v := 0) dX3_takeOver_114 (by decide) rfl ?_
  refine wp_aload_n dX3_takeOver_115 rfl rfl ?_
  refine wn_getR dX3_takeOver_116 fRX3_27 (o11 hi) rfl rfl rfl ?_
  refine wp_iconst (v := 0) dX3_takeOver_119 (by decide) rfl ?_
  refine wp_bipush (v := 12) dX3_takeOver_120 (by decide) rfl ?_
  refine wn_acopy dX3_takeOver_122 rRX3_68 (o17 hi) (o17 hj) rfl rfl (N := 12) (D := 0) (S := 0) ⟨by decide, by decide⟩ ⟨by decide, by decide⟩ ⟨by decide, by decide⟩ (Nat.le_of_ble_eq_true rfl) (Nat.le_of_ble_eq_true rfl) (by omega) (Nat.le_of_ble_eq_true rfl) rfl ?_
  have hB3 : ∀ q, q < 12 → (sV u2 (17, i, 0) (va_cpy (u2.1 (17, j, 0)) (u2.1 (17, i, 0)) 0 0 12)).1 (17, i, 0) q = u2.1 (17, j, 0) q := fun q hq => by rw [sV_eq, cpy12 hq]
  have hC3 : FQ (fun r : Rf => r = (17, i, 0)) u2 (sV u2 (17, i, 0) (va_cpy (u2.1 (17, j, 0)) (u2.1 (17, i, 0)) 0 0 12)) := FQ.vt (X := fun r : Rf => r = (17, i, 0)) FQ.rf rfl
  generalize (sV u2 (17, i, 0) (va_cpy (u2.1 (17, j, 0)) (u2.1 (17, i, 0)) 0 0 12)) = u3 at hB3 hC3 ⊢
  refine wp_iconst (v := 0) dX3_takeOver_125 (by decide) rfl ?_
  refine wp_istore_n (l' := [_, _, some _]) dX3_takeOver_126 rfl rfl ?_
  have he2 : u3.2 = s.2 := by rw [hC3.2, hC2.2, hC1.2, hC0.2]
  refine l3_tkL (d := d) (s := u3) hi hj hij (fun s2 hL2 hF2 => ?_) 0 (Nat.zero_le _) u3 (fun g hg => absurd hg (Nat.not_lt_zero g)) FQ.rf
  refine wp_iconst (v := 0) dX3_takeOver_154 (by decide) rfl ?_
  refine wp_istore_n (l' := [_, _, some _]) dX3_takeOver_155 rfl rfl ?_
  have hFa : FQ (XT i) s s2 := (((((hC0.wd (fun r hr => by rw [show r = (11, i, 0) from hr]; exact ⟨rfl, Or.inl rfl⟩)).tr (hC1.wd (fun r hr => by rw [show r = (14, i, 0) from hr]; exact ⟨rfl, Or.inr (Or.inr (Or.inl rfl))⟩))).tr (hC2.wd (fun r hr => by rw [show r = (15, i, 0) from hr]; exact ⟨rfl, Or.inr (Or.inr (Or.inr (Or.inl rfl)))⟩))).tr (hC3.wd (fun r hr => by rw [show r = (17, i, 0) from hr]; exact ⟨rfl, Or.inr (Or.inl rfl)⟩))).tr (hF2.wd (fun r hr => ⟨hr.1, Or.inr (Or.inr (Or.inr (Or.inr hr.2)))⟩)))
  have q11 : ∀ q, 6 ≤ q → q ≤ 15 → s2.1 (11, i, 0) q = s.1 (11, j, 0) q := fun q h6 h15 => by
    rw [hF2.1 (11, i, 0) (fun z => absurd z.2 (by show ¬ 11 = 12; decide)), hC3.1 (11, i, 0) (fun z => absurd (congrArg Prod.fst z) (by show ¬ 11 = 17; decide)), hC2.1 (11, i, 0) (fun z => absurd (congrArg Prod.fst z) (by show ¬ 11 = 15; decide)), hC1.1 (11, i, 0) (fun z => absurd (congrArg Prod.fst z) (by show ¬ 11 = 14; decide))]; exact hA0 q h6 h15
  have q14 : ∀ q, q < 12 → s2.1 (14, i, 0) q = s.1 (14, j, 0) q := fun q hq => by
    rw [hF2.1 (14, i, 0) (fun z => absurd z.2 (by show ¬ 14 = 12; decide)), hC3.1 (14, i, 0) (fun z => absurd (congrArg Prod.fst z) (by show ¬ 14 = 17; decide)), hC2.1 (14, i, 0) (fun z => absurd (congrArg Prod.fst z) (by show ¬ 14 = 15; decide)), hB1 q hq, hC0.1 (14, j, 0) (fun z => absurd (congrArg Prod.fst z) (by show ¬ 14 = 11; decide))]
  have q15 : ∀ q, q < 12 → s2.1 (15, i, 0) q = s.1 (15, j, 0) q := fun q hq => by
    rw [hF2.1 (15, i, 0) (fun z => absurd z.2 (by show ¬ 15 = 12; decide)), hC3.1 (15, i, 0) (fun z => absurd (congrArg Prod.fst z) (by show ¬ 15 = 17; decide)), hB2 q hq, hC1.1 (15, j, 0) (fun z => absurd (congrArg Prod.fst z) (by show ¬ 15 = 14; decide)), hC0.1 (15, j, 0) (fun z => absurd (congrArg Prod.fst z) (by show ¬ 15 = 11; decide))]
  have q17 : ∀ q, q < 12 → s2.1 (17, i, 0) q = s.1 (17, j, 0) q := fun q hq => by
    rw [hF2.1 (17, i, 0) (fun z => absurd z.2 (by show ¬ 17 = 12; decide)), hB3 q hq, hC2.1 (17, j, 0) (fun z => absurd (congrArg Prod.fst z) (by show ¬ 17 = 15; decide)), hC1.1 (17, j, 0) (fun z => absurd (congrArg Prod.fst z) (by show ¬ 17 = 14; decide)), hC0.1 (17, j, 0) (fun z => absurd (congrArg Prod.fst z) (by show ¬ 17 = 11; decide))]
  have q12 : ∀ g, g < 12 → ∀ w, w < 5 → s2.1 (12, i, g) w = s.1 (12, j, g) w := fun g hg w hw => by
    rw [hL2 g hg w hw, hC3.1 (12, j, g) (fun z => absurd (congrArg Prod.fst z) (by show ¬ 12 = 17; decide)), hC2.1 (12, j, g) (fun z => absurd (congrArg Prod.fst z) (by show ¬ 12 = 15; decide)), hC1.1 (12, j, g) (fun z => absurd (congrArg Prod.fst z) (by show ¬ 12 = 14; decide)), hC0.1 (12, j, g) (fun z => absurd (congrArg Prod.fst z) (by show ¬ 12 = 11; decide))]
  have hl := l3_tkW (d := d + 1) (s := s2) (P := (Pn fun t => (∀ q, 6 ≤ q → q ≤ 15 → t.1 (11, i, 0) q = s.1 (11, j, 0) q) ∧ (∀ q, q < 12 → t.1 (14, i, 0) q = s.1 (14, j, 0) q) ∧ (∀ q, q < 12 → t.1 (15, i, 0) q = s.1 (15, j, 0) q) ∧ (∀ q, q < 12 → t.1 (17, i, 0) q = s.1 (17, j, 0) q) ∧ (∀ g, g < 12 → ∀ w, w < 5 → t.1 (12, i, g) w = s.1 (12, j, g) w) ∧ (∀ r, ¬ XT i r → t.1 r = s.1 r) ∧ t.2 = (tkW s i j 14).2)) hi hj hij (by rw [hFa.2]; exact hA) ?_ 0 (Nat.zero_le _)
  · rw [tkW_0] at hl
    exact hl
  · refine ⟨_, rfl, rfl, q11, q14, q15, q17, q12, hFa.1, ?_⟩
    unfold tkW
    dsimp only
    rw [hFa.2]
end
