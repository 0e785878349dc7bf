/-! THE PURE PART, 100: both objects are made -/
theorem nB10 {l : List Nat} {i : Nat} : ∀ k, ¬ lj nilP (10, 0, 0) l (11, i, 0) k := fun k => lj_no (fun z => z) (fun z => absurd (congrArg Prod.fst z.1) (by show ¬ 11 = 10; decide))
theorem g_slots {L : Nat} {xs : Nat → Int32} {d : Nat} : ∀ m, m ≤ 5 → ∀ x : Sx, Cn x (93 + 4 * m) → Ge L xs nilP (rg nilP (26, 0, 0) m 5) x → Wp (d + 3) MX7_init 121 [some (vR 10 0 0), some (vI (nI m))] [] (hs x) (Pg L xs nilP nilP 113) := by
  refine ind_up (fun m hm ih => ?_)
  intro x hn hG
  refine wp_iload_n dX7_init_121 rfl rfl ?_
  refine wp_iconst (v := 5) dX7_init_122 (by decide) rfl ?_
  refine wp_icmp_ge (t := 145) dX7_init_123 rfl rfl (fun h1 => ?_) (fun h1 => ?_)
  · have hm2 : m = 5 := by have := (nI_leI (a := 5) (by omega) (by omega)).mp h1; omega
    subst hm2
    refine wp_ret dX7_init_145 rfl ?_
    exact ⟨rfl, x, rfl, hG.mo (fun _ _ h => h) (fun _ _ h => rg_nil h), hn⟩
  · have hl : m < 5 := by have := mt (nI_leI (a := 5) (by omega) (by omega)).mpr h1; omega
    have n10 : ∀ k, ¬ rg nilP (26, 0, 0) m 5 (10, 0, 0) k := fun k => rg_no (fun z => z) (fun z => absurd (congrArg Prod.fst z.1) (by show ¬ 10 = 26; decide))
    refine wp_aload_n dX7_init_126 rfl rfl ?_
    refine wg_getR dX7_init_127 fRX7_40 (okG hn (by decide) (by show 0 < _; omega) rfl) rfl hG (n10 6) rfl rfl ?_
    refine wp_iload_n dX7_init_130 rfl rfl ?_
    refine wg_new (A' := nilP) (B' := lj (rg nilP (26, 0, 0) m 5) (30, m, 0) [0, 1]) (N' := 94 + 4 * m) (r := (30, m, 0)) dX7_init_131 nRX7_38 hn (qr30 m hl) rfl df30 (by decide) rfl hG (fun _ _ h => h) (fun _ _ => rfl) (fun _ _ h => Or.inl h) (fun k hk => yy30 (fun z => hk (Or.inr ⟨rfl, z⟩))) (by omega) rfl (fun y hG hn => ?_)
    refine wp_dup dX7_init_134 rfl rfl ?_
    refine wg_init (A := nilP) (B := rg nilP (26, 0, 0) m 5) (N := 97 + 4 * m) dX7_init_135 rRX7_57 (show 5 ≤ 30 by decide) (Nat.le_of_ble_eq_true rfl) (Nat.le_of_ble_eq_true rfl) rfl (g_slot (d := d) hl hn hG) (fun y hG hn => ?_)
    refine wg_aast (B' := rg nilP (26, 0, 0) (m + 1) 5) (j := m) dX7_init_138 (okG hn (by decide) (by show 83 < _; omega) rfl) rfl (nIx rfl (by omega)) (show m < 5 from hl) (oG30 hn hl (by omega)) rfl hn hG (rfs26 hl).symm rg_st rfl (fun y hG hn => ?_)
    refine wp_iinc (l' := [_, some _]) (v := 1) dX7_init_139 rfl (by decide) rfl rfl ?_
    refine wp_goto (t := 121) dX7_init_142 rfl ?_
    rw [nI_1]
    exact ih hl y (by rw [show 93 + 4 * (m + 1) = 97 + 4 * m by omega]; exact hn) hG
theorem g_sheets {L : Nat} {xs : Nat → Int32} {d : Nat} : ∀ m, m ≤ 4 → ∀ x : Sx, Cn x (85 + 2 * m) → Ge L xs nilP (rg (rg nilP (26, 0, 0) 0 5) (25, 0, 0) m 4) x → Wp (d + 3) MX7_init 95 [some (vR 10 0 0), some (vI (nI m))] [] (hs x) (Pg L xs nilP nilP 113) := by
  refine ind_up (fun m hm ih => ?_)
  intro x hn hG
  refine wp_iload_n dX7_init_95 rfl rfl ?_
  refine wp_iconst (v := 4) dX7_init_96 (by decide) rfl ?_
  refine wp_icmp_ge (t := 119) dX7_init_97 rfl rfl (fun h1 => ?_) (fun h1 => ?_)
  · have hm2 : m = 4 := by have := (nI_leI (a := 4) (by omega) (by omega)).mp h1; omega
    subst hm2
    refine wp_iconst (v := 0) dX7_init_119 (by decide) rfl ?_
    refine wp_istore_n (l' := [_, some _]) dX7_init_120 rfl rfl ?_
    exact g_slots 0 (by omega) x hn (hG.mo (fun _ _ h => h) (fun _ _ h => rg_nil h))
  · have hl : m < 4 := by have := mt (nI_leI (a := 4) (by omega) (by omega)).mpr h1; omega
    have n10 : ∀ k, ¬ rg (rg nilP (26, 0, 0) 0 5) (25, 0, 0) m 4 (10, 0, 0) k := fun k => rg_no (rg_no (fun z => z) (fun z => absurd (congrArg Prod.fst z.1) (by show ¬ 10 = 26; decide))) (fun z => absurd (congrArg Prod.fst z.1) (by show ¬ 10 = 25; decide))
    refine wp_aload_n dX7_init_100 rfl rfl ?_
    refine wg_getR dX7_init_101 fRX7_34 (okG hn (by decide) (by show 0 < _; omega) rfl) rfl hG (n10 5) rfl rfl ?_
    refine wp_iload_n dX7_init_104 rfl rfl ?_
    refine wg_new (A' := lj nilP (28, m, 0) [1]) (B' := lj (rg (rg nilP (26, 0, 0) 0 5) (25, 0, 0) m 4) (28, m, 0) [0]) (N' := 86 + 2 * m) (r := (28, m, 0)) dX7_init_105 nRX7_32 hn (qr28 m hl) rfl df28 (by decide) rfl hG (fun _ _ h => Or.inl h) (fun k hk => zz28 (fun z => hk (Or.inr ⟨rfl, z⟩))) (fun _ _ h => Or.inl h) (fun k hk => yy28 (fun z => hk (Or.inr ⟨rfl, z⟩))) (by omega) rfl (fun y hG hn => ?_)
    refine wp_dup dX7_init_108 rfl rfl ?_
    refine wg_init (A := nilP) (B := rg (rg nilP (26, 0, 0) 0 5) (25, 0, 0) m 4) (N := 87 + 2 * m) dX7_init_109 rRX7_56 (show 5 ≤ 28 by decide) (Nat.le_of_ble_eq_true rfl) (Nat.le_of_ble_eq_true rfl) rfl (g_row28 (d := d + 1) hl hn hG) (fun y hG hn => ?_)
    refine wg_aast (B' := rg (rg nilP (26, 0, 0) 0 5) (25, 0, 0) (m + 1) 4) (j := m) dX7_init_112 (okG hn (by decide) (by show 82 < _; omega) rfl) rfl (nIx rfl (by omega)) (show m < 4 from hl) (oG28 hn hl (by omega)) rfl hn hG (rfs25 hl).symm rg_st rfl (fun y hG hn => ?_)
    refine wp_iinc (l' := [_, some _]) (v := 1) dX7_init_113 rfl (by decide) rfl rfl ?_
    refine wp_goto (t := 95) dX7_init_116 rfl ?_
    rw [nI_1]
    exact ih hl y (by rw [show 85 + 2 * (m + 1) = 87 + 2 * m by omega]; exact hn) hG
theorem g_class {x : Sx} {L : Nat} {xs : Nat → Int32} {d : Nat} (hn : Cn x 1) (hG : Ge L xs nilP (lj nilP (10, 0, 0) [0, 1, 2, 3, 4, 5, 6, 7]) x) : Ca (d + 3) MX7_init [vR 10 0 0] (hs x) (Pg L xs nilP nilP 113) := by
  change Wp _ _ 0 [some _, none] [] _ _
  refine wp_aload_n dX7_init_0 rfl rfl ?_
  refine wp_objInit dX7_init_1 rRX7_1 (show 5 ≤ 10 by decide) (by omega) (Nat.le_of_ble_eq_true rfl) rfl ?_
  refine wp_aload_n dX7_init_4 rfl rfl ?_
  refine wg_new (A' := (lj nilP (11, 0, 0) [9, 15])) (B' := (lj (lj nilP (10, 0, 0) [0, 1, 2, 3, 4, 5, 6, 7]) (11, 0, 0) [0, 1, 2, 3, 4, 5])) (N' := 2) (r := (11, 0, 0)) dX7_init_5 nRX7_7 hn rfl rfl df11 (by decide) rfl hG (fun _ _ h => Or.inl h) (fun k hk => zz11 (fun z => hk (Or.inr ⟨rfl, z⟩))) (fun _ _ h => Or.inl h) (fun k hk => yy11 (fun z => hk (Or.inr ⟨rfl, z⟩))) (by omega) rfl (fun y hG hn => ?_)
  refine wp_dup dX7_init_8 rfl rfl ?_
  refine wg_init (A := nilP) (B := (lj nilP (10, 0, 0) [0, 1, 2, 3, 4, 5, 6, 7])) (N := 20) dX7_init_9 rRX7_9 (show 5 ≤ 11 by decide) (Nat.le_of_ble_eq_true rfl) (Nat.le_of_ble_eq_true rfl) rfl (g_river (d := d) (i := 0) (by decide) nB10 hn hG) (fun y hG hn => ?_)
  refine wg_putR (B' := (lj nilP (10, 0, 0) [1, 2, 3, 4, 5, 6, 7])) dX7_init_12 fRX7_10 (oGc hn (by decide +kernel)) rfl rfl hn hG rfl lj_tl rfl (fun y hG hn => ?_)
  refine wp_aload_n dX7_init_15 rfl rfl ?_
  refine wg_new (A' := (lj nilP (11, 1, 0) [9, 15])) (B' := (lj (lj nilP (10, 0, 0) [1, 2, 3, 4, 5, 6, 7]) (11, 1, 0) [0, 1, 2, 3, 4, 5])) (N' := 21) (r := (11, 1, 0)) dX7_init_16 nRX7_7 hn rfl rfl df11 (by decide) rfl hG (fun _ _ h => Or.inl h) (fun k hk => zz11 (fun z => hk (Or.inr ⟨rfl, z⟩))) (fun _ _ h => Or.inl h) (fun k hk => yy11 (fun z => hk (Or.inr ⟨rfl, z⟩))) (by omega) rfl (fun y hG hn => ?_)
  refine wp_dup dX7_init_19 rfl rfl ?_
  refine wg_init (A := nilP) (B := (lj nilP (10, 0, 0) [1, 2, 3, 4, 5, 6, 7])) (N := 39) dX7_init_20 rRX7_9 (show 5 ≤ 11 by decide) (Nat.le_of_ble_eq_true rfl) (Nat.le_of_ble_eq_true rfl) rfl (g_river (d := d) (i := 1) (by decide) nB10 hn hG) (fun y hG hn => ?_)
  refine wg_putR (B' := (lj nilP (10, 0, 0) [2, 3, 4, 5, 6, 7])) dX7_init_23 fRX7_16 (oGc hn (by decide +kernel)) rfl rfl hn hG rfl lj_tl rfl (fun y hG hn => ?_)
  refine wp_aload_n dX7_init_26 rfl rfl ?_
  refine wg_new (A' := (lj nilP (11, 2, 0) [9, 15])) (B' := (lj (lj nilP (10, 0, 0) [2, 3, 4, 5, 6, 7]) (11, 2, 0) [0, 1, 2, 3, 4, 5])) (N' := 40) (r := (11, 2, 0)) dX7_init_27 nRX7_7 hn rfl rfl df11 (by decide) rfl hG (fun _ _ h => Or.inl h) (fun k hk => zz11 (fun z => hk (Or.inr ⟨rfl, z⟩))) (fun _ _ h => Or.inl h) (fun k hk => yy11 (fun z => hk (Or.inr ⟨rfl, z⟩))) (by omega) rfl (fun y hG hn => ?_)
  refine wp_dup dX7_init_30 rfl rfl ?_
  refine wg_init (A := nilP) (B := (lj nilP (10, 0, 0) [2, 3, 4, 5, 6, 7])) (N := 58) dX7_init_31 rRX7_9 (show 5 ≤ 11 by decide) (Nat.le_of_ble_eq_true rfl) (Nat.le_of_ble_eq_true rfl) rfl (g_river (d := d) (i := 2) (by decide) nB10 hn hG) (fun y hG hn => ?_)
  refine wg_putR (B' := (lj nilP (10, 0, 0) [3, 4, 5, 6, 7])) dX7_init_34 fRX7_19 (oGc hn (by decide +kernel)) rfl rfl hn hG rfl lj_tl rfl (fun y hG hn => ?_)
  refine wp_aload_n dX7_init_37 rfl rfl ?_
  refine wg_new (A' := (lj nilP (11, 3, 0) [9, 15])) (B' := (lj (lj nilP (10, 0, 0) [3, 4, 5, 6, 7]) (11, 3, 0) [0, 1, 2, 3, 4, 5])) (N' := 59) (r := (11, 3, 0)) dX7_init_38 nRX7_7 hn rfl rfl df11 (by decide) rfl hG (fun _ _ h => Or.inl h) (fun k hk => zz11 (fun z => hk (Or.inr ⟨rfl, z⟩))) (fun _ _ h => Or.inl h) (fun k hk => yy11 (fun z => hk (Or.inr ⟨rfl, z⟩))) (by omega) rfl (fun y hG hn => ?_)
  refine wp_dup dX7_init_41 rfl rfl ?_
  refine wg_init (A := nilP) (B := (lj nilP (10, 0, 0) [3, 4, 5, 6, 7])) (N := 77) dX7_init_42 rRX7_9 (show 5 ≤ 11 by decide) (Nat.le_of_ble_eq_true rfl) (Nat.le_of_ble_eq_true rfl) rfl (g_river (d := d) (i := 3) (by decide) nB10 hn hG) (fun y hG hn => ?_)
  refine wg_putR (B' := (lj nilP (10, 0, 0) [4, 5, 6, 7])) dX7_init_45 fRX7_22 (oGc hn (by decide +kernel)) rfl rfl hn hG rfl lj_tl rfl (fun y hG hn => ?_)
  refine wp_aload_n dX7_init_48 rfl rfl ?_
  refine wg_new (A' := (lj nilP (20, 0, 0) [11])) (B' := (lj (lj nilP (10, 0, 0) [4, 5, 6, 7]) (20, 0, 0) [0, 1, 2])) (N' := 78) (r := (20, 0, 0)) dX7_init_49 nRX7_25 hn rfl rfl df20 (by decide) rfl hG (fun _ _ h => Or.inl h) (fun k hk => zz20 (fun z => hk (Or.inr ⟨rfl, z⟩))) (fun _ _ h => Or.inl h) (fun k hk => yy20 (fun z => hk (Or.inr ⟨rfl, z⟩))) (by omega) rfl (fun y hG hn => ?_)
  refine wp_dup dX7_init_52 rfl rfl ?_
  refine wg_init (A := nilP) (B := (lj nilP (10, 0, 0) [4, 5, 6, 7])) (N := 82) dX7_init_53 rRX7_27 (show 5 ≤ 20 by decide) (Nat.le_of_ble_eq_true rfl) (Nat.le_of_ble_eq_true rfl) rfl (g_reader (d := d) hn hG) (fun y hG hn => ?_)
  refine wg_putR (B' := (lj nilP (10, 0, 0) [5, 6, 7])) dX7_init_56 fRX7_28 (oGc hn (by decide +kernel)) rfl rfl hn hG rfl lj_tl rfl (fun y hG hn => ?_)
  refine wp_aload_n dX7_init_59 rfl rfl ?_
  refine wp_iconst (v := 4) dX7_init_60 (by decide) rfl ?_
  refine wg_anew (A' := nilP) (B' := (rg (lj nilP (10, 0, 0) [5, 6, 7]) (25, 0, 0) 0 4)) (N' := 83) (r := (25, 0, 0)) (M := 4) dX7_init_61 aRX7_32 hn rfl rfl ⟨by decide, by decide⟩ (by decide) (fun _ => rfl) rfl hG (fun _ _ h => h) (fun _ _ => rfl) (fun _ _ h => Or.inl h) (fun k hk => yy25 (fun z => hk (Or.inr ⟨rfl, Nat.zero_le _, z⟩))) (by omega) rfl (fun y hG hn => ?_)
  refine wg_putR (B' := (rg (lj nilP (10, 0, 0) [6, 7]) (25, 0, 0) 0 4)) dX7_init_64 fRX7_34 (oGc hn (by decide +kernel)) rfl rfl hn hG rfl (rg_in lj_tl) rfl (fun y hG hn => ?_)
  refine wp_aload_n dX7_init_67 rfl rfl ?_
  refine wp_iconst (v := 5) dX7_init_68 (by decide) rfl ?_
  refine wg_anew (A' := nilP) (B' := (rg (rg (lj nilP (10, 0, 0) [6, 7]) (25, 0, 0) 0 4) (26, 0, 0) 0 5)) (N' := 84) (r := (26, 0, 0)) (M := 5) dX7_init_69 aRX7_38 hn rfl rfl ⟨by decide, by decide⟩ (by decide) (fun _ => rfl) rfl hG (fun _ _ h => h) (fun _ _ => rfl) (fun _ _ h => Or.inl h) (fun k hk => yy26 (fun z => hk (Or.inr ⟨rfl, Nat.zero_le _, z⟩))) (by omega) rfl (fun y hG hn => ?_)
  refine wg_putR (B' := (rg (rg (lj nilP (10, 0, 0) [7]) (25, 0, 0) 0 4) (26, 0, 0) 0 5)) dX7_init_72 fRX7_40 (oGc hn (by decide +kernel)) rfl rfl hn hG rfl (rg_in (rg_in lj_tl)) rfl (fun y hG hn => ?_)
  refine wp_aload_n dX7_init_75 rfl rfl ?_
  refine wp_bipush (v := 60) dX7_init_76 (by decide) rfl ?_
  refine wg_newarr (A' := nilP) (B' := (rg (rg (lj nilP (10, 0, 0) [7]) (25, 0, 0) 0 4) (26, 0, 0) 0 5)) (N' := 85) (r := (27, 0, 0)) (M := 60) dX7_init_78 (by decide) hn rfl rfl ⟨by decide, by decide⟩ (by decide) (by decide +kernel) rfl rfl hG (fun _ _ h => h) (fun _ _ => rfl) (fun _ _ h => h) (fun _ _ => rfl) (by omega) rfl (fun y hG hn => ?_)
  refine wg_putR (B' := (rg (rg (lj nilP (10, 0, 0) []) (25, 0, 0) 0 4) (26, 0, 0) 0 5)) dX7_init_80 fRX7_44 (oGc hn (by decide +kernel)) rfl rfl hn hG rfl (rg_in (rg_in lj_tl)) rfl (fun y hG hn => ?_)
  refine wp_aload_n dX7_init_83 rfl rfl ?_
  refine wp_iconst (v := 0) dX7_init_84 (by decide) rfl ?_
  refine wg_putI (A' := nilP) dX7_init_85 fRX7_48 (oGc hn (by decide +kernel)) rfl rfl hn hG rfl (fun _ _ h _ => h) rfl (fun y hG hn => ?_)
  refine wp_aload_n dX7_init_88 rfl rfl ?_
  refine wp_iconst (v := 0) dX7_init_89 (by decide) rfl ?_
  refine wg_putZ (A' := nilP) dX7_init_90 fRX7_52 (oGc hn (by decide +kernel)) rfl rfl (by decide) hn hG rfl (fun _ _ h _ => h) rfl (fun y hG hn => ?_)
  refine wp_iconst (v := 0) dX7_init_93 (by decide) rfl ?_
  refine wp_istore_n (l' := [_, some _]) dX7_init_94 rfl rfl ?_
  exact g_sheets 0 (by omega) y hn (hG.mo (fun _ _ h => h) (fun _ _ h => h.elim (fun q => q.elim (fun p => (show False from lj_nil p).elim) (fun p => Or.inr p)) (fun p => Or.inl (Or.inr p))))
theorem zm6 {xs : Nat → Int32} {k : Nat} (h : k ∉ [1, 2, 3]) : n0 xs (41, 6, 0) k = 0 := by
  show (if k = 1 then (5 : Int32) else if k = 2 then (8 : Int32) else if k = 3 then (12 : Int32) else 0) = 0
  rw [if_neg (fun e => h (by rw [e]; decide)), if_neg (fun e => h (by rw [e]; decide)), if_neg (fun e => h (by rw [e]; decide))]
theorem zm12 {xs : Nat → Int32} {k : Nat} (h : k ∉ [0, 1, 2, 3]) : n0 xs (41, 12, 0) k = 0 := by
  show (if k < 4 then (-1 : Int32) else 0) = 0
  rw [if_neg (fun e => h (by rcases (by omega : k = 0 ∨ k = 1 ∨ k = 2 ∨ k = 3) with e | e | e | e <;> rw [e] <;> decide))]
theorem zm42 {xs : Nat → Int32} {k : Nat} (h : k ∉ [0, 1, 2, 3, 4, 5, 6, 7, 8, 9, 10, 11]) : n0 xs (42, 0, 0) k = 0 := by
  match k, h with
  | 0, h => exact absurd (by decide) h
  | 1, h => exact absurd (by decide) h
  | 2, h => exact absurd (by decide) h
  | 3, h => exact absurd (by decide) h
  | 4, h => exact absurd (by decide) h
  | 5, h => exact absurd (by decide) h
  | 6, h => exact absurd (by decide) h
  | 7, h => exact absurd (by decide) h
  | 8, h => exact absurd (by decide) h
  | 9, h => exact absurd (by decide) h
  | 10, h => exact absurd (by decide) h
  | 11, h => exact absurd (by decide) h
  | k + 12, _ => rfl
theorem zm0 {xs : Nat → Int32} {A : Pp} {k : Nat} (h : ¬ lj (rg A (41, 0, 0) 21 33) (41, 0, 0) [0, 3] (41, 0, 0) k) : n0 xs (41, 0, 0) k = 0 := by
  show (if k = 0 then (1 : Int32) else if k = 3 then 3 else if 21 ≤ k ∧ k < 33 then 4 else 0) = 0
  rw [if_neg (fun e => h (Or.inr ⟨rfl, by rw [e]; decide⟩)), if_neg (fun e => h (Or.inr ⟨rfl, by rw [e]; decide⟩)), if_neg (fun e => h (Or.inl (Or.inr ⟨rfl, e⟩)))]
theorem ix_21b {m : Nat} : (21 : Int32) + nI m = nI (21 + m) := by
  rw [show (21 : Int32) = nI 21 from rfl, nI_add]
theorem g_now {L : Nat} {xs : Nat → Int32} {d : Nat} : ∀ m, m ≤ 12 → ∀ x : Sx, Cn x 135 → Ge L xs (rg nilP (41, 0, 0) (21 + m) 33) nilP x → Wp (d + 1) MX8_init 284 [some (vR 40 0 0), some (vI (nI m))] [] (hs x) (Pg L xs nilP nilP 135) := by
  refine ind_up (fun m hm ih => ?_)
  intro x hn hG
  refine wp_iload_n dX8_init_284 rfl rfl ?_
  refine wp_bipush (v := 12) dX8_init_285 (by decide) rfl ?_
  refine wp_icmp_ge (t := 306) dX8_init_287 rfl rfl (fun h1 => ?_) (fun h1 => ?_)
  · have hm2 : m = 12 := by have := (nI_leI (a := 12) (by omega) (by omega)).mp h1; omega
    subst hm2
    refine wp_ret dX8_init_306 rfl ?_
    exact ⟨rfl, x, rfl, hG.mo (fun _ _ h => rg_nil h) (fun _ _ h => h), hn⟩
  · have hl : m < 12 := by have := mt (nI_leI (a := 12) (by omega) (by omega)).mpr h1; omega
    refine wp_aload_n dX8_init_290 rfl rfl ?_
    refine wg_getR dX8_init_291 fRX8_9 (oGc hn (by decide +kernel)) rfl hG (fun z => z) rfl rfl ?_
    refine wp_bipush (v := 21) dX8_init_294 (by decide) rfl ?_
    refine wp_iload_n dX8_init_296 rfl rfl ?_
    refine wp_iadd dX8_init_297 rfl ?_
    refine wp_iconst (v := 4) dX8_init_298 (by decide) rfl ?_
    refine wg_iast (A' := rg nilP (41, 0, 0) (21 + m + 1) 33) (j := 21 + m) dX8_init_299 (oGc hn (by decide +kernel)) rfl (nIx ix_21b (by omega)) (show 21 + m < 1477 by omega) hn hG (by
      show (4 : Int32) = if 21 + m = 0 then 1 else if 21 + m = 3 then 3 else if 21 ≤ 21 + m ∧ 21 + m < 33 then 4 else 0
      rw [if_neg (by omega), if_neg (by omega), if_pos (by omega)]) rg_st rfl (fun y hG hn => ?_)
    refine wp_iinc (l' := [_, some _]) (v := 1) dX8_init_300 rfl (by decide) rfl rfl ?_
    refine wp_goto (t := 284) dX8_init_303 rfl ?_
    rw [nI_1]
    exact ih hl y hn hG
theorem g_model {x : Sx} {L : Nat} {xs : Nat → Int32} {d : Nat} (hn : Cn x 114) (hG : Ge L xs nilP (lj nilP (40, 0, 0) [0, 1, 2, 4, 5, 13, 14, 15, 18, 20, 21, 22, 23, 24, 25, 26, 27, 28, 29, 30, 31]) x) : Ca (d + 1) MX8_init [vR 40 0 0] (hs x) (Pg L xs nilP nilP 135) := by
  change Wp _ _ 0 [some _, none] [] _ _
  refine wp_aload_n dX8_init_0 rfl rfl ?_
  refine wp_objInit dX8_init_1 rRX8_1 (show 5 ≤ 40 by decide) (by omega) (Nat.le_of_ble_eq_true rfl) rfl ?_
  refine wp_aload_n dX8_init_4 rfl rfl ?_
  refine wp_sipush (v := 1477) dX8_init_5 (by decide) rfl ?_
  refine wg_newarr (A' := (lj (rg nilP (41, 0, 0) 21 33) (41, 0, 0) [0, 3])) (B' := (lj nilP (40, 0, 0) [0, 1, 2, 4, 5, 13, 14, 15, 18, 20, 21, 22, 23, 24, 25, 26, 27, 28, 29, 30, 31])) (N' := 115) (r := (41, 0, 0)) (M := 1477) dX8_init_8 (by decide) hn rfl rfl ⟨by decide, by decide⟩ (by decide) (by decide +kernel) rfl rfl hG (fun _ _ h => Or.inl (Or.inl h)) (fun k hk => zm0 hk) (fun _ _ h => h) (fun _ _ => rfl) (by omega) rfl (fun y hG hn => ?_)
  refine wg_putR (B' := (lj nilP (40, 0, 0) [1, 2, 4, 5, 13, 14, 15, 18, 20, 21, 22, 23, 24, 25, 26, 27, 28, 29, 30, 31])) dX8_init_10 fRX8_9 (oGc hn (by decide +kernel)) rfl rfl hn hG rfl lj_tl rfl (fun y hG hn => ?_)
  refine wp_aload_n dX8_init_13 rfl rfl ?_
  refine wp_sipush (v := 1477) dX8_init_14 (by decide) rfl ?_
  refine wg_newarr (A' := (lj (rg nilP (41, 0, 0) 21 33) (41, 0, 0) [0, 3])) (B' := (lj nilP (40, 0, 0) [1, 2, 4, 5, 13, 14, 15, 18, 20, 21, 22, 23, 24, 25, 26, 27, 28, 29, 30, 31])) (N' := 116) (r := (41, 1, 0)) (M := 1477) dX8_init_17 (by decide) hn rfl rfl ⟨by decide, by decide⟩ (by decide) (by decide +kernel) rfl rfl hG (fun _ _ h => h) (fun _ _ => rfl) (fun _ _ h => h) (fun _ _ => rfl) (by omega) rfl (fun y hG hn => ?_)
  refine wg_putR (B' := (lj nilP (40, 0, 0) [2, 4, 5, 13, 14, 15, 18, 20, 21, 22, 23, 24, 25, 26, 27, 28, 29, 30, 31])) dX8_init_19 fRX8_13 (oGc hn (by decide +kernel)) rfl rfl hn hG rfl lj_tl rfl (fun y hG hn => ?_)
  refine wp_aload_n dX8_init_22 rfl rfl ?_
  refine wp_sipush (v := 1477) dX8_init_23 (by decide) rfl ?_
  refine wg_newarr (A' := (lj (rg nilP (41, 0, 0) 21 33) (41, 0, 0) [0, 3])) (B' := (lj nilP (40, 0, 0) [2, 4, 5, 13, 14, 15, 18, 20, 21, 22, 23, 24, 25, 26, 27, 28, 29, 30, 31])) (N' := 117) (r := (41, 2, 0)) (M := 1477) dX8_init_26 (by decide) hn rfl rfl ⟨by decide, by decide⟩ (by decide) (by decide +kernel) rfl rfl hG (fun _ _ h => h) (fun _ _ => rfl) (fun _ _ h => h) (fun _ _ => rfl) (by omega) rfl (fun y hG hn => ?_)
  refine wg_putR (B' := (lj nilP (40, 0, 0) [4, 5, 13, 14, 15, 18, 20, 21, 22, 23, 24, 25, 26, 27, 28, 29, 30, 31])) dX8_init_28 fRX8_16 (oGc hn (by decide +kernel)) rfl rfl hn hG rfl lj_tl rfl (fun y hG hn => ?_)
  refine wp_aload_n dX8_init_31 rfl rfl ?_
  refine wp_bipush (v := 105) dX8_init_32 (by decide) rfl ?_
  refine wg_newarr (A' := (lj (rg nilP (41, 0, 0) 21 33) (41, 0, 0) [0, 3])) (B' := (lj nilP (40, 0, 0) [4, 5, 13, 14, 15, 18, 20, 21, 22, 23, 24, 25, 26, 27, 28, 29, 30, 31])) (N' := 118) (r := (41, 3, 0)) (M := 105) dX8_init_34 (by decide) hn rfl rfl ⟨by decide, by decide⟩ (by decide) (by decide +kernel) rfl rfl hG (fun _ _ h => h) (fun _ _ => rfl) (fun _ _ h => h) (fun _ _ => rfl) (by omega) rfl (fun y hG hn => ?_)
  refine wg_putR (B' := (lj nilP (40, 0, 0) [5, 13, 14, 15, 18, 20, 21, 22, 23, 24, 25, 26, 27, 28, 29, 30, 31])) dX8_init_36 fRX8_19 (oGc hn (by decide +kernel)) rfl rfl hn hG rfl lj_tl rfl (fun y hG hn => ?_)
  refine wp_aload_n dX8_init_39 rfl rfl ?_
  refine wp_bipush (v := 96) dX8_init_40 (by decide) rfl ?_
  refine wg_newarr (A' := (lj (rg nilP (41, 0, 0) 21 33) (41, 0, 0) [0, 3])) (B' := (lj nilP (40, 0, 0) [5, 13, 14, 15, 18, 20, 21, 22, 23, 24, 25, 26, 27, 28, 29, 30, 31])) (N' := 119) (r := (41, 4, 0)) (M := 96) dX8_init_42 (by decide) hn rfl rfl ⟨by decide, by decide⟩ (by decide) (by decide +kernel) rfl rfl hG (fun _ _ h => h) (fun _ _ => rfl) (fun _ _ h => h) (fun _ _ => rfl) (by omega) rfl (fun y hG hn => ?_)
  refine wg_putR (B' := (lj nilP (40, 0, 0) [13, 14, 15, 18, 20, 21, 22, 23, 24, 25, 26, 27, 28, 29, 30, 31])) dX8_init_44 fRX8_22 (oGc hn (by decide +kernel)) rfl rfl hn hG rfl lj_tl rfl (fun y hG hn => ?_)
  refine wp_aload_n dX8_init_47 rfl rfl ?_
  refine wp_bipush (v := 12) dX8_init_48 (by decide) rfl ?_
  refine wg_newarr (A' := (lj (lj (rg nilP (41, 0, 0) 21 33) (41, 0, 0) [0, 3]) (42, 0, 0) [0, 1, 2, 3, 4, 5, 6, 7, 8, 9, 10, 11])) (B' := (lj nilP (40, 0, 0) [13, 14, 15, 18, 20, 21, 22, 23, 24, 25, 26, 27, 28, 29, 30, 31])) (N' := 120) (r := (42, 0, 0)) (M := 12) dX8_init_50 (by decide) hn rfl rfl ⟨by decide, by decide⟩ (by decide) (by decide +kernel) rfl rfl hG (fun _ _ h => Or.inl h) (fun k hk => zm42 (fun z => hk (Or.inr ⟨rfl, z⟩))) (fun _ _ h => h) (fun _ _ => rfl) (by omega) rfl (fun y hG hn => ?_)
  refine wp_dup dX8_init_52 rfl rfl ?_
  refine wp_iconst (v := 0) dX8_init_53 (by decide) rfl ?_
  refine wp_bipush (v := 100) dX8_init_54 (by decide) rfl ?_
  refine wg_cast (A' := (lj (lj (rg nilP (41, 0, 0) 21 33) (41, 0, 0) [0, 3]) (42, 0, 0) [1, 2, 3, 4, 5, 6, 7, 8, 9, 10, 11])) (j := 0) dX8_init_56 (oGc hn (by decide +kernel)) rfl ⟨by decide, by decide⟩ (by show _ < 12; decide) hn hG rfl lj_tl rfl (fun y hG hn => ?_)
  refine wp_dup dX8_init_57 rfl rfl ?_
  refine wp_iconst (v := 1) dX8_init_58 (by decide) rfl ?_
  refine wp_bipush (v := 114) dX8_init_59 (by decide) rfl ?_
  refine wg_cast (A' := (lj (lj (rg nilP (41, 0, 0) 21 33) (41, 0, 0) [0, 3]) (42, 0, 0) [2, 3, 4, 5, 6, 7, 8, 9, 10, 11])) (j := 1) dX8_init_61 (oGc hn (by decide +kernel)) rfl ⟨by decide, by decide⟩ (by show _ < 12; decide) hn hG rfl lj_tl rfl (fun y hG hn => ?_)
  refine wp_dup dX8_init_62 rfl rfl ?_
  refine wp_iconst (v := 2) dX8_init_63 (by decide) rfl ?_
  refine wp_bipush (v := 105) dX8_init_64 (by decide) rfl ?_
  refine wg_cast (A' := (lj (lj (rg nilP (41, 0, 0) 21 33) (41, 0, 0) [0, 3]) (42, 0, 0) [3, 4, 5, 6, 7, 8, 9, 10, 11])) (j := 2) dX8_init_66 (oGc hn (by decide +kernel)) rfl ⟨by decide, by decide⟩ (by show _ < 12; decide) hn hG rfl lj_tl rfl (fun y hG hn => ?_)
  refine wp_dup dX8_init_67 rfl rfl ?_
  refine wp_iconst (v := 3) dX8_init_68 (by decide) rfl ?_
  refine wp_bipush (v := 102) dX8_init_69 (by decide) rfl ?_
  refine wg_cast (A' := (lj (lj (rg nilP (41, 0, 0) 21 33) (41, 0, 0) [0, 3]) (42, 0, 0) [4, 5, 6, 7, 8, 9, 10, 11])) (j := 3) dX8_init_71 (oGc hn (by decide +kernel)) rfl ⟨by decide, by decide⟩ (by show _ < 12; decide) hn hG rfl lj_tl rfl (fun y hG hn => ?_)
  refine wp_dup dX8_init_72 rfl rfl ?_
  refine wp_iconst (v := 4) dX8_init_73 (by decide) rfl ?_
  refine wp_bipush (v := 116) dX8_init_74 (by decide) rfl ?_
  refine wg_cast (A' := (lj (lj (rg nilP (41, 0, 0) 21 33) (41, 0, 0) [0, 3]) (42, 0, 0) [5, 6, 7, 8, 9, 10, 11])) (j := 4) dX8_init_76 (oGc hn (by decide +kernel)) rfl ⟨by decide, by decide⟩ (by show _ < 12; decide) hn hG rfl lj_tl rfl (fun y hG hn => ?_)
  refine wp_dup dX8_init_77 rfl rfl ?_
  refine wp_iconst (v := 5) dX8_init_78 (by decide) rfl ?_
  refine wp_bipush (v := 102) dX8_init_79 (by decide) rfl ?_
  refine wg_cast (A' := (lj (lj (rg nilP (41, 0, 0) 21 33) (41, 0, 0) [0, 3]) (42, 0, 0) [6, 7, 8, 9, 10, 11])) (j := 5) dX8_init_81 (oGc hn (by decide +kernel)) rfl ⟨by decide, by decide⟩ (by show _ < 12; decide) hn hG rfl lj_tl rfl (fun y hG hn => ?_)
  refine wp_dup dX8_init_82 rfl rfl ?_
  refine wp_bipush (v := 6) dX8_init_83 (by decide) rfl ?_
  refine wp_bipush (v := 101) dX8_init_85 (by decide) rfl ?_
  refine wg_cast (A' := (lj (lj (rg nilP (41, 0, 0) 21 33) (41, 0, 0) [0, 3]) (42, 0, 0) [7, 8, 9, 10, 11])) (j := 6) dX8_init_87 (oGc hn (by decide +kernel)) rfl ⟨by decide, by decide⟩ (by show _ < 12; decide) hn hG rfl lj_tl rfl (fun y hG hn => ?_)
  refine wp_dup dX8_init_88 rfl rfl ?_
  refine wp_bipush (v := 7) dX8_init_89 (by decide) rfl ?_
  refine wp_bipush (v := 101) dX8_init_91 (by decide) rfl ?_
  refine wg_cast (A' := (lj (lj (rg nilP (41, 0, 0) 21 33) (41, 0, 0) [0, 3]) (42, 0, 0) [8, 9, 10, 11])) (j := 7) dX8_init_93 (oGc hn (by decide +kernel)) rfl ⟨by decide, by decide⟩ (by show _ < 12; decide) hn hG rfl lj_tl rfl (fun y hG hn => ?_)
  refine wp_dup dX8_init_94 rfl rfl ?_
  refine wp_bipush (v := 8) dX8_init_95 (by decide) rfl ?_
  refine wp_bipush (v := 102) dX8_init_97 (by decide) rfl ?_
  refine wg_cast (A' := (lj (lj (rg nilP (41, 0, 0) 21 33) (41, 0, 0) [0, 3]) (42, 0, 0) [9, 10, 11])) (j := 8) dX8_init_99 (oGc hn (by decide +kernel)) rfl ⟨by decide, by decide⟩ (by show _ < 12; decide) hn hG rfl lj_tl rfl (fun y hG hn => ?_)
  refine wp_dup dX8_init_100 rfl rfl ?_
  refine wp_bipush (v := 9) dX8_init_101 (by decide) rfl ?_
  refine wp_bipush (v := 105) dX8_init_103 (by decide) rfl ?_
  refine wg_cast (A' := (lj (lj (rg nilP (41, 0, 0) 21 33) (41, 0, 0) [0, 3]) (42, 0, 0) [10, 11])) (j := 9) dX8_init_105 (oGc hn (by decide +kernel)) rfl ⟨by decide, by decide⟩ (by show _ < 12; decide) hn hG rfl lj_tl rfl (fun y hG hn => ?_)
  refine wp_dup dX8_init_106 rfl rfl ?_
  refine wp_bipush (v := 10) dX8_init_107 (by decide) rfl ?_
  refine wp_bipush (v := 110) dX8_init_109 (by decide) rfl ?_
  refine wg_cast (A' := (lj (lj (rg nilP (41, 0, 0) 21 33) (41, 0, 0) [0, 3]) (42, 0, 0) [11])) (j := 10) dX8_init_111 (oGc hn (by decide +kernel)) rfl ⟨by decide, by decide⟩ (by show _ < 12; decide) hn hG rfl lj_tl rfl (fun y hG hn => ?_)
  refine wp_dup dX8_init_112 rfl rfl ?_
  refine wp_bipush (v := 11) dX8_init_113 (by decide) rfl ?_
  refine wp_bipush (v := 101) dX8_init_115 (by decide) rfl ?_
  refine wg_cast (A' := (lj (lj (rg nilP (41, 0, 0) 21 33) (41, 0, 0) [0, 3]) (42, 0, 0) [])) (j := 11) dX8_init_117 (oGc hn (by decide +kernel)) rfl ⟨by decide, by decide⟩ (by show _ < 12; decide) hn hG rfl lj_tl rfl (fun y hG hn => ?_)
  replace hG := hG.mo (A' := (lj (rg nilP (41, 0, 0) 21 33) (41, 0, 0) [0, 3])) (B' := (lj nilP (40, 0, 0) [13, 14, 15, 18, 20, 21, 22, 23, 24, 25, 26, 27, 28, 29, 30, 31])) (fun _ _ h => lj_nil h) (fun _ _ h => h)
  refine wg_putR (B' := (lj nilP (40, 0, 0) [14, 15, 18, 20, 21, 22, 23, 24, 25, 26, 27, 28, 29, 30, 31])) dX8_init_118 fRX8_25 (oGc hn (by decide +kernel)) rfl rfl hn hG rfl lj_tl rfl (fun y hG hn => ?_)
  refine wp_aload_n dX8_init_121 rfl rfl ?_
  refine wp_iconst (v := 4) dX8_init_122 (by decide) rfl ?_
  refine wg_newarr (A' := (lj (lj (rg nilP (41, 0, 0) 21 33) (41, 0, 0) [0, 3]) (41, 6, 0) [1, 2, 3])) (B' := (lj nilP (40, 0, 0) [14, 15, 18, 20, 21, 22, 23, 24, 25, 26, 27, 28, 29, 30, 31])) (N' := 121) (r := (41, 6, 0)) (M := 4) dX8_init_123 (by decide) hn rfl rfl ⟨by decide, by decide⟩ (by decide) (by decide +kernel) rfl rfl hG (fun _ _ h => Or.inl h) (fun k hk => zm6 (fun z => hk (Or.inr ⟨rfl, z⟩))) (fun _ _ h => h) (fun _ _ => rfl) (by omega) rfl (fun y hG hn => ?_)
  refine wp_dup dX8_init_125 rfl rfl ?_
  refine wp_iconst (v := 0) dX8_init_126 (by decide) rfl ?_
  refine wp_iconst (v := 0) dX8_init_127 (by decide) rfl ?_
  refine wg_iast (A' := (lj (lj (rg nilP (41, 0, 0) 21 33) (41, 0, 0) [0, 3]) (41, 6, 0) [1, 2, 3])) (j := 0) dX8_init_128 (oGc hn (by decide +kernel)) rfl ⟨by decide, by decide⟩ (by show _ < 4; decide) hn hG rfl (fun _ _ h _ => h) rfl (fun y hG hn => ?_)
  refine wp_dup dX8_init_129 rfl rfl ?_
  refine wp_iconst (v := 1) dX8_init_130 (by decide) rfl ?_
  refine wp_iconst (v := 5) dX8_init_131 (by decide) rfl ?_
  refine wg_iast (A' := (lj (lj (rg nilP (41, 0, 0) 21 33) (41, 0, 0) [0, 3]) (41, 6, 0) [2, 3])) (j := 1) dX8_init_132 (oGc hn (by decide +kernel)) rfl ⟨by decide, by decide⟩ (by show _ < 4; decide) hn hG rfl lj_tl rfl (fun y hG hn => ?_)
  refine wp_dup dX8_init_133 rfl rfl ?_
  refine wp_iconst (v := 2) dX8_init_134 (by decide) rfl ?_
  refine wp_bipush (v := 8) dX8_init_135 (by decide) rfl ?_
  refine wg_iast (A' := (lj (lj (rg nilP (41, 0, 0) 21 33) (41, 0, 0) [0, 3]) (41, 6, 0) [3])) (j := 2) dX8_init_137 (oGc hn (by decide +kernel)) rfl ⟨by decide, by decide⟩ (by show _ < 4; decide) hn hG rfl lj_tl rfl (fun y hG hn => ?_)
  refine wp_dup dX8_init_138 rfl rfl ?_
  refine wp_iconst (v := 3) dX8_init_139 (by decide) rfl ?_
  refine wp_bipush (v := 12) dX8_init_140 (by decide) rfl ?_
  refine wg_iast (A' := (lj (lj (rg nilP (41, 0, 0) 21 33) (41, 0, 0) [0, 3]) (41, 6, 0) [])) (j := 3) dX8_init_142 (oGc hn (by decide +kernel)) rfl ⟨by decide, by decide⟩ (by show _ < 4; decide) hn hG rfl lj_tl rfl (fun y hG hn => ?_)
  replace hG := hG.mo (A' := (lj (rg nilP (41, 0, 0) 21 33) (41, 0, 0) [0, 3])) (B' := (lj nilP (40, 0, 0) [14, 15, 18, 20, 21, 22, 23, 24, 25, 26, 27, 28, 29, 30, 31])) (fun _ _ h => lj_nil h) (fun _ _ h => h)
  refine wg_putR (B' := (lj nilP (40, 0, 0) [15, 18, 20, 21, 22, 23, 24, 25, 26, 27, 28, 29, 30, 31])) dX8_init_143 fRX8_29 (oGc hn (by decide +kernel)) rfl rfl hn hG rfl lj_tl rfl (fun y hG hn => ?_)
  refine wp_aload_n dX8_init_146 rfl rfl ?_
  refine wp_bipush (v := 96) dX8_init_147 (by decide) rfl ?_
  refine wg_newarr (A' := (lj (rg nilP (41, 0, 0) 21 33) (41, 0, 0) [0, 3])) (B' := (lj nilP (40, 0, 0) [15, 18, 20, 21, 22, 23, 24, 25, 26, 27, 28, 29, 30, 31])) (N' := 122) (r := (41, 7, 0)) (M := 96) dX8_init_149 (by decide) hn rfl rfl ⟨by decide, by decide⟩ (by decide) (by decide +kernel) rfl rfl hG (fun _ _ h => h) (fun _ _ => rfl) (fun _ _ h => h) (fun _ _ => rfl) (by omega) rfl (fun y hG hn => ?_)
  refine wg_putR (B' := (lj nilP (40, 0, 0) [18, 20, 21, 22, 23, 24, 25, 26, 27, 28, 29, 30, 31])) dX8_init_151 fRX8_32 (oGc hn (by decide +kernel)) rfl rfl hn hG rfl lj_tl rfl (fun y hG hn => ?_)
  refine wp_aload_n dX8_init_154 rfl rfl ?_
  refine wp_bipush (v := 96) dX8_init_155 (by decide) rfl ?_
  refine wg_newarr (A' := (lj (rg nilP (41, 0, 0) 21 33) (41, 0, 0) [0, 3])) (B' := (lj nilP (40, 0, 0) [18, 20, 21, 22, 23, 24, 25, 26, 27, 28, 29, 30, 31])) (N' := 123) (r := (41, 8, 0)) (M := 96) dX8_init_157 (by decide) hn rfl rfl ⟨by decide, by decide⟩ (by decide) (by decide +kernel) rfl rfl hG (fun _ _ h => h) (fun _ _ => rfl) (fun _ _ h => h) (fun _ _ => rfl) (by omega) rfl (fun y hG hn => ?_)
  refine wg_putR (B' := (lj nilP (40, 0, 0) [20, 21, 22, 23, 24, 25, 26, 27, 28, 29, 30, 31])) dX8_init_159 fRX8_35 (oGc hn (by decide +kernel)) rfl rfl hn hG rfl lj_tl rfl (fun y hG hn => ?_)
  refine wp_aload_n dX8_init_162 rfl rfl ?_
  refine wp_bipush (v := 10) dX8_init_163 (by decide) rfl ?_
  refine wg_newarr (A' := (lj (rg nilP (41, 0, 0) 21 33) (41, 0, 0) [0, 3])) (B' := (lj nilP (40, 0, 0) [20, 21, 22, 23, 24, 25, 26, 27, 28, 29, 30, 31])) (N' := 124) (r := (43, 0, 0)) (M := 10) dX8_init_165 (by decide) hn rfl rfl ⟨by decide, by decide⟩ (by decide) (by decide +kernel) rfl rfl hG (fun _ _ h => h) (fun _ _ => rfl) (fun _ _ h => h) (fun _ _ => rfl) (by omega) rfl (fun y hG hn => ?_)
  refine wg_putR (B' := (lj nilP (40, 0, 0) [21, 22, 23, 24, 25, 26, 27, 28, 29, 30, 31])) dX8_init_167 fRX8_38 (oGc hn (by decide +kernel)) rfl rfl hn hG rfl lj_tl rfl (fun y hG hn => ?_)
  refine wp_aload_n dX8_init_170 rfl rfl ?_
  refine wp_bipush (v := 96) dX8_init_171 (by decide) rfl ?_
  refine wg_newarr (A' := (lj (rg nilP (41, 0, 0) 21 33) (41, 0, 0) [0, 3])) (B' := (lj nilP (40, 0, 0) [21, 22, 23, 24, 25, 26, 27, 28, 29, 30, 31])) (N' := 125) (r := (41, 10, 0)) (M := 96) dX8_init_173 (by decide) hn rfl rfl ⟨by decide, by decide⟩ (by decide) (by decide +kernel) rfl rfl hG (fun _ _ h => h) (fun _ _ => rfl) (fun _ _ h => h) (fun _ _ => rfl) (by omega) rfl (fun y hG hn => ?_)
  refine wg_putR (B' := (lj nilP (40, 0, 0) [22, 23, 24, 25, 26, 27, 28, 29, 30, 31])) dX8_init_175 fRX8_42 (oGc hn (by decide +kernel)) rfl rfl hn hG rfl lj_tl rfl (fun y hG hn => ?_)
  refine wp_aload_n dX8_init_178 rfl rfl ?_
  refine wp_iconst (v := 4) dX8_init_179 (by decide) rfl ?_
  refine wg_newarr (A' := (lj (rg nilP (41, 0, 0) 21 33) (41, 0, 0) [0, 3])) (B' := (lj nilP (40, 0, 0) [22, 23, 24, 25, 26, 27, 28, 29, 30, 31])) (N' := 126) (r := (41, 11, 0)) (M := 4) dX8_init_180 (by decide) hn rfl rfl ⟨by decide, by decide⟩ (by decide) (by decide +kernel) rfl rfl hG (fun _ _ h => h) (fun _ _ => rfl) (fun _ _ h => h) (fun _ _ => rfl) (by omega) rfl (fun y hG hn => ?_)
  refine wg_putR (B' := (lj nilP (40, 0, 0) [23, 24, 25, 26, 27, 28, 29, 30, 31])) dX8_init_182 fRX8_45 (oGc hn (by decide +kernel)) rfl rfl hn hG rfl lj_tl rfl (fun y hG hn => ?_)
  refine wp_aload_n dX8_init_185 rfl rfl ?_
  refine wp_iconst (v := 4) dX8_init_186 (by decide) rfl ?_
  refine wg_newarr (A' := (lj (lj (rg nilP (41, 0, 0) 21 33) (41, 0, 0) [0, 3]) (41, 12, 0) [0, 1, 2, 3])) (B' := (lj nilP (40, 0, 0) [23, 24, 25, 26, 27, 28, 29, 30, 31])) (N' := 127) (r := (41, 12, 0)) (M := 4) dX8_init_187 (by decide) hn rfl rfl ⟨by decide, by decide⟩ (by decide) (by decide +kernel) rfl rfl hG (fun _ _ h => Or.inl h) (fun k hk => zm12 (fun z => hk (Or.inr ⟨rfl, z⟩))) (fun _ _ h => h) (fun _ _ => rfl) (by omega) rfl (fun y hG hn => ?_)
  refine wp_dup dX8_init_189 rfl rfl ?_
  refine wp_iconst (v := 0) dX8_init_190 (by decide) rfl ?_
  refine wp_iconst (v := (-1)) dX8_init_191 (by decide) rfl ?_
  refine wg_iast (A' := (lj (lj (rg nilP (41, 0, 0) 21 33) (41, 0, 0) [0, 3]) (41, 12, 0) [1, 2, 3])) (j := 0) dX8_init_192 (oGc hn (by decide +kernel)) rfl ⟨by decide, by decide⟩ (by show _ < 4; decide) hn hG rfl lj_tl rfl (fun y hG hn => ?_)
  refine wp_dup dX8_init_193 rfl rfl ?_
  refine wp_iconst (v := 1) dX8_init_194 (by decide) rfl ?_
  refine wp_iconst (v := (-1)) dX8_init_195 (by decide) rfl ?_
  refine wg_iast (A' := (lj (lj (rg nilP (41, 0, 0) 21 33) (41, 0, 0) [0, 3]) (41, 12, 0) [2, 3])) (j := 1) dX8_init_196 (oGc hn (by decide +kernel)) rfl ⟨by decide, by decide⟩ (by show _ < 4; decide) hn hG rfl lj_tl rfl (fun y hG hn => ?_)
  refine wp_dup dX8_init_197 rfl rfl ?_
  refine wp_iconst (v := 2) dX8_init_198 (by decide) rfl ?_
  refine wp_iconst (v := (-1)) dX8_init_199 (by decide) rfl ?_
  refine wg_iast (A' := (lj (lj (rg nilP (41, 0, 0) 21 33) (41, 0, 0) [0, 3]) (41, 12, 0) [3])) (j := 2) dX8_init_200 (oGc hn (by decide +kernel)) rfl ⟨by decide, by decide⟩ (by show _ < 4; decide) hn hG rfl lj_tl rfl (fun y hG hn => ?_)
  refine wp_dup dX8_init_201 rfl rfl ?_
  refine wp_iconst (v := 3) dX8_init_202 (by decide) rfl ?_
  refine wp_iconst (v := (-1)) dX8_init_203 (by decide) rfl ?_
  refine wg_iast (A' := (lj (lj (rg nilP (41, 0, 0) 21 33) (41, 0, 0) [0, 3]) (41, 12, 0) [])) (j := 3) dX8_init_204 (oGc hn (by decide +kernel)) rfl ⟨by decide, by decide⟩ (by show _ < 4; decide) hn hG rfl lj_tl rfl (fun y hG hn => ?_)
  replace hG := hG.mo (A' := (lj (rg nilP (41, 0, 0) 21 33) (41, 0, 0) [0, 3])) (B' := (lj nilP (40, 0, 0) [23, 24, 25, 26, 27, 28, 29, 30, 31])) (fun _ _ h => lj_nil h) (fun _ _ h => h)
  refine wg_putR (B' := (lj nilP (40, 0, 0) [24, 25, 26, 27, 28, 29, 30, 31])) dX8_init_205 fRX8_48 (oGc hn (by decide +kernel)) rfl rfl hn hG rfl lj_tl rfl (fun y hG hn => ?_)
  refine wp_aload_n dX8_init_208 rfl rfl ?_
  refine wp_iconst (v := 4) dX8_init_209 (by decide) rfl ?_
  refine wg_newarr (A' := (lj (rg nilP (41, 0, 0) 21 33) (41, 0, 0) [0, 3])) (B' := (lj nilP (40, 0, 0) [24, 25, 26, 27, 28, 29, 30, 31])) (N' := 128) (r := (41, 13, 0)) (M := 4) dX8_init_210 (by decide) hn rfl rfl ⟨by decide, by decide⟩ (by decide) (by decide +kernel) rfl rfl hG (fun _ _ h => h) (fun _ _ => rfl) (fun _ _ h => h) (fun _ _ => rfl) (by omega) rfl (fun y hG hn => ?_)
  refine wg_putR (B' := (lj nilP (40, 0, 0) [25, 26, 27, 28, 29, 30, 31])) dX8_init_212 fRX8_51 (oGc hn (by decide +kernel)) rfl rfl hn hG rfl lj_tl rfl (fun y hG hn => ?_)
  refine wp_aload_n dX8_init_215 rfl rfl ?_
  refine wp_bipush (v := 96) dX8_init_216 (by decide) rfl ?_
  refine wg_newarr (A' := (lj (rg nilP (41, 0, 0) 21 33) (41, 0, 0) [0, 3])) (B' := (lj nilP (40, 0, 0) [25, 26, 27, 28, 29, 30, 31])) (N' := 129) (r := (41, 14, 0)) (M := 96) dX8_init_218 (by decide) hn rfl rfl ⟨by decide, by decide⟩ (by decide) (by decide +kernel) rfl rfl hG (fun _ _ h => h) (fun _ _ => rfl) (fun _ _ h => h) (fun _ _ => rfl) (by omega) rfl (fun y hG hn => ?_)
  refine wg_putR (B' := (lj nilP (40, 0, 0) [26, 27, 28, 29, 30, 31])) dX8_init_220 fRX8_54 (oGc hn (by decide +kernel)) rfl rfl hn hG rfl lj_tl rfl (fun y hG hn => ?_)
  refine wp_aload_n dX8_init_223 rfl rfl ?_
  refine wp_iconst (v := 5) dX8_init_224 (by decide) rfl ?_
  refine wg_newarr (A' := (lj (rg nilP (41, 0, 0) 21 33) (41, 0, 0) [0, 3])) (B' := (lj nilP (40, 0, 0) [26, 27, 28, 29, 30, 31])) (N' := 130) (r := (41, 15, 0)) (M := 5) dX8_init_225 (by decide) hn rfl rfl ⟨by decide, by decide⟩ (by decide) (by decide +kernel) rfl rfl hG (fun _ _ h => h) (fun _ _ => rfl) (fun _ _ h => h) (fun _ _ => rfl) (by omega) rfl (fun y hG hn => ?_)
  refine wg_putR (B' := (lj nilP (40, 0, 0) [27, 28, 29, 30, 31])) dX8_init_227 fRX8_57 (oGc hn (by decide +kernel)) rfl rfl hn hG rfl lj_tl rfl (fun y hG hn => ?_)
  refine wp_aload_n dX8_init_230 rfl rfl ?_
  refine wp_iconst (v := 5) dX8_init_231 (by decide) rfl ?_
  refine wg_newarr (A' := (lj (rg nilP (41, 0, 0) 21 33) (41, 0, 0) [0, 3])) (B' := (lj nilP (40, 0, 0) [27, 28, 29, 30, 31])) (N' := 131) (r := (41, 16, 0)) (M := 5) dX8_init_232 (by decide) hn rfl rfl ⟨by decide, by decide⟩ (by decide) (by decide +kernel) rfl rfl hG (fun _ _ h => h) (fun _ _ => rfl) (fun _ _ h => h) (fun _ _ => rfl) (by omega) rfl (fun y hG hn => ?_)
  refine wg_putR (B' := (lj nilP (40, 0, 0) [28, 29, 30, 31])) dX8_init_234 fRX8_60 (oGc hn (by decide +kernel)) rfl rfl hn hG rfl lj_tl rfl (fun y hG hn => ?_)
  refine wp_aload_n dX8_init_237 rfl rfl ?_
  refine wp_iconst (v := 5) dX8_init_238 (by decide) rfl ?_
  refine wg_newarr (A' := (lj (rg nilP (41, 0, 0) 21 33) (41, 0, 0) [0, 3])) (B' := (lj nilP (40, 0, 0) [28, 29, 30, 31])) (N' := 132) (r := (41, 17, 0)) (M := 5) dX8_init_239 (by decide) hn rfl rfl ⟨by decide, by decide⟩ (by decide) (by decide +kernel) rfl rfl hG (fun _ _ h => h) (fun _ _ => rfl) (fun _ _ h => h) (fun _ _ => rfl) (by omega) rfl (fun y hG hn => ?_)
  refine wg_putR (B' := (lj nilP (40, 0, 0) [29, 30, 31])) dX8_init_241 fRX8_63 (oGc hn (by decide +kernel)) rfl rfl hn hG rfl lj_tl rfl (fun y hG hn => ?_)
  refine wp_aload_n dX8_init_244 rfl rfl ?_
  refine wp_bipush (v := 120) dX8_init_245 (by decide) rfl ?_
  refine wg_newarr (A' := (lj (rg nilP (41, 0, 0) 21 33) (41, 0, 0) [0, 3])) (B' := (lj nilP (40, 0, 0) [29, 30, 31])) (N' := 133) (r := (41, 18, 0)) (M := 120) dX8_init_247 (by decide) hn rfl rfl ⟨by decide, by decide⟩ (by decide) (by decide +kernel) rfl rfl hG (fun _ _ h => h) (fun _ _ => rfl) (fun _ _ h => h) (fun _ _ => rfl) (by omega) rfl (fun y hG hn => ?_)
  refine wg_putR (B' := (lj nilP (40, 0, 0) [30, 31])) dX8_init_249 fRX8_66 (oGc hn (by decide +kernel)) rfl rfl hn hG rfl lj_tl rfl (fun y hG hn => ?_)
  refine wp_aload_n dX8_init_252 rfl rfl ?_
  refine wp_bipush (v := 24) dX8_init_253 (by decide) rfl ?_
  refine wg_newarr (A' := (lj (rg nilP (41, 0, 0) 21 33) (41, 0, 0) [0, 3])) (B' := (lj nilP (40, 0, 0) [30, 31])) (N' := 134) (r := (41, 19, 0)) (M := 24) dX8_init_255 (by decide) hn rfl rfl ⟨by decide, by decide⟩ (by decide) (by decide +kernel) rfl rfl hG (fun _ _ h => h) (fun _ _ => rfl) (fun _ _ h => h) (fun _ _ => rfl) (by omega) rfl (fun y hG hn => ?_)
  refine wg_putR (B' := (lj nilP (40, 0, 0) [31])) dX8_init_257 fRX8_69 (oGc hn (by decide +kernel)) rfl rfl hn hG rfl lj_tl rfl (fun y hG hn => ?_)
  refine wp_aload_n dX8_init_260 rfl rfl ?_
  refine wp_bipush (v := 60) dX8_init_261 (by decide) rfl ?_
  refine wg_newarr (A' := (lj (rg nilP (41, 0, 0) 21 33) (41, 0, 0) [0, 3])) (B' := (lj nilP (40, 0, 0) [31])) (N' := 135) (r := (41, 20, 0)) (M := 60) dX8_init_263 (by decide) hn rfl rfl ⟨by decide, by decide⟩ (by decide) (by decide +kernel) rfl rfl hG (fun _ _ h => h) (fun _ _ => rfl) (fun _ _ h => h) (fun _ _ => rfl) (by omega) rfl (fun y hG hn => ?_)
  refine wg_putR (B' := (lj nilP (40, 0, 0) [])) dX8_init_265 fRX8_72 (oGc hn (by decide +kernel)) rfl rfl hn hG rfl lj_tl rfl (fun y hG hn => ?_)
  replace hG := hG.mo (A' := (lj (rg nilP (41, 0, 0) 21 33) (41, 0, 0) [0, 3])) (B' := nilP) (fun _ _ h => h) (fun _ _ h => lj_nil h)
  refine wp_aload_n dX8_init_268 rfl rfl ?_
  refine wg_getR dX8_init_269 fRX8_9 (oGc hn (by decide +kernel)) rfl hG (fun z => z) rfl rfl ?_
  refine wp_iconst (v := 0) dX8_init_272 (by decide) rfl ?_
  refine wp_iconst (v := 1) dX8_init_273 (by decide) rfl ?_
  refine wg_iast (A' := (lj (rg nilP (41, 0, 0) 21 33) (41, 0, 0) [3])) (j := 0) dX8_init_274 (oGc hn (by decide +kernel)) rfl ⟨by decide, by decide⟩ (by show _ < 1477; decide) hn hG rfl lj_tl rfl (fun y hG hn => ?_)
  refine wp_aload_n dX8_init_275 rfl rfl ?_
  refine wg_getR dX8_init_276 fRX8_9 (oGc hn (by decide +kernel)) rfl hG (fun z => z) rfl rfl ?_
  refine wp_iconst (v := 3) dX8_init_279 (by decide) rfl ?_
  refine wp_iconst (v := 3) dX8_init_280 (by decide) rfl ?_
  refine wg_iast (A' := (lj (rg nilP (41, 0, 0) 21 33) (41, 0, 0) [])) (j := 3) dX8_init_281 (oGc hn (by decide +kernel)) rfl ⟨by decide, by decide⟩ (by show _ < 1477; decide) hn hG rfl lj_tl rfl (fun y hG hn => ?_)
  replace hG := hG.mo (A' := (rg nilP (41, 0, 0) 21 33)) (B' := nilP) (fun _ _ h => lj_nil h) (fun _ _ h => h)
  refine wp_iconst (v := 0) dX8_init_282 (by decide) rfl ?_
  refine wp_istore_n (l' := [_, some _]) dX8_init_283 rfl rfl ?_
  exact g_now 0 (by omega) y hn hG
