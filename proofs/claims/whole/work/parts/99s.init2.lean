/-! THE PURE PART, 99: a river is made -/
theorem g_rooms {x : Sx} {L : Nat} {xs : Nat → Int32} {A B : Pp} {d i : Nat} (hi : i < 4) (hB : ∀ k, ¬ B (11, i, 0) k) : ∀ m, m ≤ 12 → ∀ x : Sx, Cn x (20 + 19 * i) → Ge L xs (rg A (14, i, 0) m 12) B x → Wp (d + 2) MX3_init 133 [some (vR 11 i 0), some (vI (nI m))] [] (hs x) (Pg L xs A B (20 + 19 * i)) := by
  refine ind_up (fun m hm ih => ?_)
  intro x hn hG
  refine wp_iload_n dX3_init_133 rfl rfl ?_
  refine wp_bipush (v := 12) dX3_init_134 (by decide) rfl ?_
  refine wp_icmp_ge (t := 152) dX3_init_136 rfl rfl (fun h1 => ?_) (fun h1 => ?_)
  · have hm2 : m = 12 := by have := (nI_leI (a := 12) (by omega) (by omega)).mp h1; omega
    subst hm2
    refine wp_ret dX3_init_152 rfl ?_
    exact ⟨rfl, x, rfl, hG.mo (fun _ _ h => rg_nil h) (fun _ _ h => h), hn⟩
  · have hl : m < 12 := by have := mt (nI_leI (a := 12) (by omega) (by omega)).mpr h1; omega
    refine wp_aload_n dX3_init_139 rfl rfl ?_
    refine wg_getR (o := some (14, i, 0)) dX3_init_140 fRX3_17 (oG11 hn hi (by omega)) rfl hG (hB 1) rfl rfl ?_
    refine wp_iload_n dX3_init_143 rfl rfl ?_
    refine wp_iconst (v := 4) dX3_init_144 (by decide) rfl ?_
    refine wg_iast (A' := rg A (14, i, 0) (m + 1) 12) (j := m) dX3_init_145 (oG14 hn hi (by omega)) rfl (nIx rfl (by omega)) (show m < 12 from hl) hn hG (zz12v (xs := xs) hl) rg_st rfl (fun y hG hn => ?_)
    refine wp_iinc (l' := [_, some _]) (v := 1) dX3_init_146 rfl (by decide) rfl rfl ?_
    refine wp_goto (t := 133) dX3_init_149 rfl ?_
    rw [nI_1]
    exact ih hl y hn hG
theorem g_logs {L : Nat} {xs : Nat → Int32} {A B : Pp} {d i : Nat} (hi : i < 4) (hB : ∀ k, ¬ B (11, i, 0) k) : ∀ m, m ≤ 12 → ∀ x : Sx, Cn x (8 + 19 * i + m) → Ge L xs (rg A (14, i, 0) 0 12) (rg B (13, i, 0) m 12) x → Wp (d + 2) MX3_init 106 [some (vR 11 i 0), some (vI (nI m))] [] (hs x) (Pg L xs A B (20 + 19 * i)) := by
  refine ind_up (fun m hm ih => ?_)
  intro x hn hG
  refine wp_iload_n dX3_init_106 rfl rfl ?_
  refine wp_bipush (v := 12) dX3_init_107 (by decide) rfl ?_
  refine wp_icmp_ge (t := 131) dX3_init_109 rfl rfl (fun h1 => ?_) (fun h1 => ?_)
  · have hm2 : m = 12 := by have := (nI_leI (a := 12) (by omega) (by omega)).mp h1; omega
    subst hm2
    refine wp_iconst (v := 0) dX3_init_131 (by decide) rfl ?_
    refine wp_istore_n (l' := [_, some _]) dX3_init_132 rfl rfl ?_
    exact g_rooms (x := x) hi hB 0 (by omega) x (by rw [show 20 + 19 * i = 8 + 19 * i + 12 by omega]; exact hn) (hG.mo (fun _ _ h => h) (fun _ _ h => rg_nil h))
  · have hl : m < 12 := by have := mt (nI_leI (a := 12) (by omega) (by omega)).mpr h1; omega
    have n11 : ∀ k, ¬ rg B (13, i, 0) m 12 (11, i, 0) k := fun k => rg_no (hB k) (fun z => absurd (congrArg Prod.fst z.1) (by show ¬ 11 = 13; decide))
    refine wp_aload_n dX3_init_112 rfl rfl ?_
    refine wg_getR (o := some (13, i, 0)) dX3_init_113 fRX3_11 (oG11 hn hi (by omega)) rfl hG (n11 0) rfl rfl ?_
    refine wp_iload_n dX3_init_116 rfl rfl ?_
    refine wg_new (A' := lj (rg A (14, i, 0) 0 12) (12, i, m) [2]) (B' := rg B (13, i, 0) m 12) (N' := 9 + 19 * i + m) (r := (12, i, m)) dX3_init_117 nRX3_9 hn (qr12 i hi m hl) rfl df12 (by decide) rfl hG (fun _ _ h => Or.inl h) (fun k hk => zz12 (fun z => hk (Or.inr ⟨rfl, z⟩))) (fun _ _ h => h) (fun _ _ => rfl) (by omega) rfl (fun y hG hn => ?_)
    refine wp_dup dX3_init_120 rfl rfl ?_
    refine wg_init (A := rg A (14, i, 0) 0 12) (B := rg B (13, i, 0) m 12) (N := 9 + 19 * i + m) dX3_init_121 rRX3_67 (show 5 ≤ 12 by decide) (Nat.le_of_ble_eq_true rfl) (Nat.le_of_ble_eq_true rfl) rfl (g_log12 (d := d) hi hl hn hG) (fun y hG hn => ?_)
    refine wg_aast (B' := rg B (13, i, 0) (m + 1) 12) (j := m) dX3_init_124 (oG13 hn hi (by omega)) rfl (nIx rfl (by omega)) (show m < 12 from hl) (oG12 hn hi hl (by omega)) rfl hn hG (rfs13 hl).symm rg_st rfl (fun y hG hn => ?_)
    refine wp_iinc (l' := [_, some _]) (v := 1) dX3_init_125 rfl (by decide) rfl rfl ?_
    refine wp_goto (t := 106) dX3_init_128 rfl ?_
    rw [nI_1]
    exact ih hl y (by rw [show 8 + 19 * i + (m + 1) = 9 + 19 * i + m by omega]; exact hn) hG
theorem g_river {x : Sx} {L : Nat} {xs : Nat → Int32} {A B : Pp} {d i : Nat} (hi : i < 4) (hB : ∀ k, ¬ B (11, i, 0) k) (hn : Cn x (2 + 19 * i)) (hG : Ge L xs (lj A (11, i, 0) [9, 15]) (lj B (11, i, 0) [0, 1, 2, 3, 4, 5]) x) : Ca (d + 2) MX3_init [vR 11 i 0] (hs x) (Pg L xs A B (20 + 19 * i)) := by
  change Wp _ _ 0 [some _, none] [] _ _
  refine wp_aload_n dX3_init_0 rfl rfl ?_
  refine wp_objInit dX3_init_1 rRX3_3 (show 5 ≤ 11 by decide) (by omega) (Nat.le_of_ble_eq_true rfl) rfl ?_
  refine wp_aload_n dX3_init_4 rfl rfl ?_
  refine wp_bipush (v := 12) dX3_init_5 (by decide) rfl ?_
  refine wg_anew (A' := (lj A (11, i, 0) [9, 15])) (B' := (rg (lj B (11, i, 0) [0, 1, 2, 3, 4, 5]) (13, i, 0) 0 12)) (N' := 3 + 19 * i) (r := (13, i, 0)) (M := 12) dX3_init_7 aRX3_9 hn (qr13 i hi) rfl ⟨by decide, by decide⟩ (by decide) (fun _ => rfl) rfl hG (fun _ _ h => h) (fun _ _ => rfl) (fun _ _ h => Or.inl h) (fun k hk => yy13 (fun z => hk (Or.inr ⟨rfl, Nat.zero_le _, z⟩))) (by omega) rfl (fun y hG hn => ?_)
  refine wg_putR (B' := (rg (lj B (11, i, 0) [1, 2, 3, 4, 5]) (13, i, 0) 0 12)) dX3_init_10 fRX3_11 (oG11 hn hi (by omega)) rfl rfl hn hG rfl (rg_in lj_tl) rfl (fun y hG hn => ?_)
  refine wp_aload_n dX3_init_13 rfl rfl ?_
  refine wp_bipush (v := 12) dX3_init_14 (by decide) rfl ?_
  refine wg_newarr (A' := (rg (lj A (11, i, 0) [9, 15]) (14, i, 0) 0 12)) (B' := (rg (lj B (11, i, 0) [1, 2, 3, 4, 5]) (13, i, 0) 0 12)) (N' := 4 + 19 * i) (r := (14, i, 0)) (M := 12) dX3_init_16 (by decide) hn (qr14 i hi) rfl ⟨by decide, by decide⟩ (by decide) (by decide +kernel) rfl rfl hG (fun _ _ h => Or.inl h) (fun k hk => zz14 (fun z => hk (Or.inr ⟨rfl, Nat.zero_le _, z⟩))) (fun _ _ h => h) (fun _ _ => rfl) (by omega) rfl (fun y hG hn => ?_)
  refine wg_putR (B' := (rg (lj B (11, i, 0) [2, 3, 4, 5]) (13, i, 0) 0 12)) dX3_init_18 fRX3_17 (oG11 hn hi (by omega)) rfl rfl hn hG rfl (rg_in lj_tl) rfl (fun y hG hn => ?_)
  refine wp_aload_n dX3_init_21 rfl rfl ?_
  refine wp_bipush (v := 12) dX3_init_22 (by decide) rfl ?_
  refine wg_newarr (A' := (rg (lj A (11, i, 0) [9, 15]) (14, i, 0) 0 12)) (B' := (rg (lj B (11, i, 0) [2, 3, 4, 5]) (13, i, 0) 0 12)) (N' := 5 + 19 * i) (r := (15, i, 0)) (M := 12) dX3_init_24 (by decide) hn (qr15 i hi) rfl ⟨by decide, by decide⟩ (by decide) (by decide +kernel) rfl rfl hG (fun _ _ h => h) (fun _ _ => rfl) (fun _ _ h => h) (fun _ _ => rfl) (by omega) rfl (fun y hG hn => ?_)
  refine wg_putR (B' := (rg (lj B (11, i, 0) [3, 4, 5]) (13, i, 0) 0 12)) dX3_init_26 fRX3_21 (oG11 hn hi (by omega)) rfl rfl hn hG rfl (rg_in lj_tl) rfl (fun y hG hn => ?_)
  refine wp_aload_n dX3_init_29 rfl rfl ?_
  refine wp_bipush (v := 12) dX3_init_30 (by decide) rfl ?_
  refine wg_newarr (A' := (rg (lj A (11, i, 0) [9, 15]) (14, i, 0) 0 12)) (B' := (rg (lj B (11, i, 0) [3, 4, 5]) (13, i, 0) 0 12)) (N' := 6 + 19 * i) (r := (16, i, 0)) (M := 12) dX3_init_32 (by decide) hn (qr16 i hi) rfl ⟨by decide, by decide⟩ (by decide) (by decide +kernel) rfl rfl hG (fun _ _ h => h) (fun _ _ => rfl) (fun _ _ h => h) (fun _ _ => rfl) (by omega) rfl (fun y hG hn => ?_)
  refine wg_putR (B' := (rg (lj B (11, i, 0) [4, 5]) (13, i, 0) 0 12)) dX3_init_34 fRX3_24 (oG11 hn hi (by omega)) rfl rfl hn hG rfl (rg_in lj_tl) rfl (fun y hG hn => ?_)
  refine wp_aload_n dX3_init_37 rfl rfl ?_
  refine wp_bipush (v := 12) dX3_init_38 (by decide) rfl ?_
  refine wg_newarr (A' := (rg (lj A (11, i, 0) [9, 15]) (14, i, 0) 0 12)) (B' := (rg (lj B (11, i, 0) [4, 5]) (13, i, 0) 0 12)) (N' := 7 + 19 * i) (r := (17, i, 0)) (M := 12) dX3_init_40 (by decide) hn (qr17 i hi) rfl ⟨by decide, by decide⟩ (by decide) (by decide +kernel) rfl rfl hG (fun _ _ h => h) (fun _ _ => rfl) (fun _ _ h => h) (fun _ _ => rfl) (by omega) rfl (fun y hG hn => ?_)
  refine wg_putR (B' := (rg (lj B (11, i, 0) [5]) (13, i, 0) 0 12)) dX3_init_42 fRX3_27 (oG11 hn hi (by omega)) rfl rfl hn hG rfl (rg_in lj_tl) rfl (fun y hG hn => ?_)
  refine wp_aload_n dX3_init_45 rfl rfl ?_
  refine wp_bipush (v := 14) dX3_init_46 (by decide) rfl ?_
  refine wg_anew (A' := (rg (lj A (11, i, 0) [9, 15]) (14, i, 0) 0 12)) (B' := (rg (lj B (11, i, 0) [5]) (13, i, 0) 0 12)) (N' := 8 + 19 * i) (r := (18, i, 0)) (M := 14) dX3_init_48 aRX3_30 hn (qr18 i hi) rfl ⟨by decide, by decide⟩ (by decide) (fun _ => rfl) rfl hG (fun _ _ h => h) (fun _ _ => rfl) (fun _ _ h => h) (fun _ _ => yy18) (by omega) rfl (fun y hG hn => ?_)
  refine wg_putR (B' := (rg (lj B (11, i, 0) []) (13, i, 0) 0 12)) dX3_init_51 fRX3_32 (oG11 hn hi (by omega)) rfl rfl hn hG rfl (rg_in lj_tl) rfl (fun y hG hn => ?_)
  refine wp_aload_n dX3_init_54 rfl rfl ?_
  refine wp_iconst (v := 0) dX3_init_55 (by decide) rfl ?_
  refine wg_putI (A' := (rg (lj A (11, i, 0) [9, 15]) (14, i, 0) 0 12)) dX3_init_56 fRX3_36 (oG11 hn hi (by omega)) rfl rfl hn hG rfl (fun _ _ h _ => h) rfl (fun y hG hn => ?_)
  refine wp_aload_n dX3_init_59 rfl rfl ?_
  refine wp_iconst (v := 0) dX3_init_60 (by decide) rfl ?_
  refine wg_putI (A' := (rg (lj A (11, i, 0) [9, 15]) (14, i, 0) 0 12)) dX3_init_61 fRX3_40 (oG11 hn hi (by omega)) rfl rfl hn hG rfl (fun _ _ h _ => h) rfl (fun y hG hn => ?_)
  refine wp_aload_n dX3_init_64 rfl rfl ?_
  refine wp_iconst (v := 0) dX3_init_65 (by decide) rfl ?_
  refine wg_putI (A' := (rg (lj A (11, i, 0) [9, 15]) (14, i, 0) 0 12)) dX3_init_66 fRX3_43 (oG11 hn hi (by omega)) rfl rfl hn hG rfl (fun _ _ h _ => h) rfl (fun y hG hn => ?_)
  refine wp_aload_n dX3_init_69 rfl rfl ?_
  refine wp_iconst (v := 3) dX3_init_70 (by decide) rfl ?_
  refine wg_putI (A' := (rg (lj A (11, i, 0) [15]) (14, i, 0) 0 12)) dX3_init_71 fRX3_46 (oG11 hn hi (by omega)) rfl rfl hn hG rfl (rg_in lj_tl) rfl (fun y hG hn => ?_)
  refine wp_aload_n dX3_init_74 rfl rfl ?_
  refine wp_iconst (v := 0) dX3_init_75 (by decide) rfl ?_
  refine wg_putI (A' := (rg (lj A (11, i, 0) [15]) (14, i, 0) 0 12)) dX3_init_76 fRX3_49 (oG11 hn hi (by omega)) rfl rfl hn hG rfl (fun _ _ h _ => h) rfl (fun y hG hn => ?_)
  refine wp_aload_n dX3_init_79 rfl rfl ?_
  refine wp_iconst (v := 0) dX3_init_80 (by decide) rfl ?_
  refine wg_putI (A' := (rg (lj A (11, i, 0) [15]) (14, i, 0) 0 12)) dX3_init_81 fRX3_52 (oG11 hn hi (by omega)) rfl rfl hn hG rfl (fun _ _ h _ => h) rfl (fun y hG hn => ?_)
  refine wp_aload_n dX3_init_84 rfl rfl ?_
  refine wp_iconst (v := 0) dX3_init_85 (by decide) rfl ?_
  refine wg_putI (A' := (rg (lj A (11, i, 0) [15]) (14, i, 0) 0 12)) dX3_init_86 fRX3_55 (oG11 hn hi (by omega)) rfl rfl hn hG rfl (fun _ _ h _ => h) rfl (fun y hG hn => ?_)
  refine wp_aload_n dX3_init_89 rfl rfl ?_
  refine wp_iconst (v := 0) dX3_init_90 (by decide) rfl ?_
  refine wg_putI (A' := (rg (lj A (11, i, 0) [15]) (14, i, 0) 0 12)) dX3_init_91 fRX3_58 (oG11 hn hi (by omega)) rfl rfl hn hG rfl (fun _ _ h _ => h) rfl (fun y hG hn => ?_)
  refine wp_aload_n dX3_init_94 rfl rfl ?_
  refine wp_iconst (v := 0) dX3_init_95 (by decide) rfl ?_
  refine wg_putI (A' := (rg (lj A (11, i, 0) [15]) (14, i, 0) 0 12)) dX3_init_96 fRX3_61 (oG11 hn hi (by omega)) rfl rfl hn hG rfl (fun _ _ h _ => h) rfl (fun y hG hn => ?_)
  refine wp_aload_n dX3_init_99 rfl rfl ?_
  refine wp_iconst (v := 1) dX3_init_100 (by decide) rfl ?_
  refine wg_putI (A' := (rg (lj A (11, i, 0) []) (14, i, 0) 0 12)) dX3_init_101 fRX3_64 (oG11 hn hi (by omega)) rfl rfl hn hG rfl (rg_in lj_tl) rfl (fun y hG hn => ?_)
  refine wp_iconst (v := 0) dX3_init_104 (by decide) rfl ?_
  refine wp_istore_n (l' := [_, some _]) dX3_init_105 rfl rfl ?_
  exact g_logs hi hB 0 (by omega) y hn (hG.mo (fun _ _ h => h.elim (fun q => Or.inl (lj_nil q)) Or.inr) (fun _ _ h => h.elim (fun q => Or.inl (lj_nil q)) Or.inr))
