/-! THE PURE PART, 55: lay -/
section
variable {d i j a b g : Nat}
/-- cells of a sheet come into a slot -/
def cp2 (hc ce : Fl) (S D k : Nat) : Fl := fun j => if D ≤ j ∧ j < D + k then ce (S + (j - D)) else hc j
theorem cp2_0 {hc ce : Fl} {S D : Nat} : cp2 hc ce S D 0 = hc := by
  funext q
  exact if_neg (by omega)
theorem cp2_s {hc ce : Fl} {S D k : Nat} : upd (cp2 hc ce S D k) (D + k) (ce (S + k)) = cp2 hc ce S D (k + 1) := by
  funext q
  by_cases e : q = D + k
  · rw [e, upd_eq]
    refine ((if_pos (by omega)).trans ?_).symm
    rw [show S + (D + k - D) = S + k by omega]
  · rw [upd_ne e]
    show (if D ≤ q ∧ q < D + k then ce (S + (q - D)) else hc q) = if D ≤ q ∧ q < D + (k + 1) then ce (S + (q - D)) else hc q
    by_cases e2 : D ≤ q ∧ q < D + k
    · rw [if_pos e2, if_pos (by omega)]
    · rw [if_neg e2, if_neg (by omega)]
abbrev laO (c : Nat) (x y k : Int32) : Prop := (0 ≤ x ∧ x ≤ 4) ∧ (0 ≤ y ∧ y ≤ 3) ∧ (y = 1 → 0 ≤ k ∧ k ≤ nI c - 1) ∧ (y = 2 → 0 ≤ k ∧ k ≤ 3)
abbrev laN (so : Fl) (y k : Int32) : Prop := y = 2 ∧ so k.toNatClampNeg < 0
def laA (so : Fl) (T : F4) (c : Nat) (x y k : Int32) : Int32 := if laO c x y k then (if laN so y k then -1000000011 else T.1 x.toNatClampNeg) else -1000000001
def laT (f so si ce : Fl) (T : F4) (c : Nat) (x y k : Int32) : F4 := if laO c x y k ∧ ¬ laN so y k then (upd T.1 x.toNatClampNeg y, upd T.2.1 x.toNatClampNeg (if y = 1 then f (45 + 5 * k.toNatClampNeg + 0) else if y = 2 then si k.toNatClampNeg else k), upd T.2.2.1 x.toNatClampNeg (if y = 1 then wor (f (45 + 5 * k.toNatClampNeg + 0)) (f (45 + 5 * k.toNatClampNeg + 2)) else 0), if y = 2 then cp2 T.2.2.2 ce (24 * k.toNatClampNeg) (24 * x.toNatClampNeg) 24 else T.2.2.2) else T
theorem la_no {f so si ce : Fl} {T : F4} {c : Nat} {x y k : Int32} (h : ¬ laO c x y k) : laA so T c x y k = -1000000001 ∧ laT f so si ce T c x y k = T := ⟨if_neg h, if_neg (fun z => h z.1)⟩
theorem la_n {f so si ce : Fl} {T : F4} {c : Nat} {x k : Int32} (h : laO c x 2 k) (h2 : so k.toNatClampNeg < 0) : laA so T c x 2 k = -1000000011 ∧ laT f so si ce T c x 2 k = T := by
  unfold laA
  rw [if_pos h, if_pos ⟨rfl, h2⟩]
  exact ⟨rfl, if_neg (fun z => z.2 ⟨rfl, h2⟩)⟩
theorem la_0 {f so si ce : Fl} {T : F4} {c : Nat} {y k : Int32} (ha : a < 5) (h : laO c (nI a) y k) (h1 : ¬ y = 1) (h2 : ¬ y = 2) : laA so T c (nI a) y k = T.1 a ∧ laT f so si ce T c (nI a) y k = (upd T.1 a y, upd T.2.1 a k, upd T.2.2.1 a 0, T.2.2.2) := by
  unfold laA laT
  rw [if_pos h, if_neg (fun z => h2 z.1), if_pos ⟨h, fun z => h2 z.1⟩, if_neg h1, if_neg h1, if_neg h2, if_neg h2, nI_clamp (by omega)]
  exact ⟨rfl, rfl⟩
theorem la_1 {f so si ce : Fl} {T : F4} {c : Nat} (ha : a < 5) (hg : g < 12) (h : laO c (nI a) 1 (nI g)) : laA so T c (nI a) 1 (nI g) = T.1 a ∧ laT f so si ce T c (nI a) 1 (nI g) = (upd T.1 a 1, upd T.2.1 a (f (45 + 5 * g + 0)), upd T.2.2.1 a (wor (f (45 + 5 * g + 0)) (f (45 + 5 * g + 2))), T.2.2.2) := by
  unfold laA laT
  rw [if_pos h, if_neg (fun z => absurd z.1 (by decide)), if_pos ⟨h, fun z => absurd z.1 (by decide)⟩, if_pos rfl, if_pos rfl, if_neg (by decide), nI_clamp (by omega), nI_clamp (by omega)]
  exact ⟨rfl, rfl⟩
theorem la_2 {f so si ce : Fl} {T : F4} {c : Nat} (ha : a < 5) (hb : b < 4) (h : laO c (nI a) 2 (nI b)) (hs : ¬ so b < 0) : laA so T c (nI a) 2 (nI b) = T.1 a ∧ laT f so si ce T c (nI a) 2 (nI b) = (upd T.1 a 2, upd T.2.1 a (si b), upd T.2.2.1 a 0, cp2 T.2.2.2 ce (24 * b) (24 * a) 24) := by
  have e : (nI b).toNatClampNeg = b := nI_clamp (by omega)
  unfold laA laT
  rw [if_pos h, if_neg (fun z => hs (by have := z.2; rw [e] at this; exact this)), if_pos ⟨h, fun z => hs (by have := z.2; rw [e] at this; exact this)⟩, if_neg (show ¬ (2 : Int32) = 1 by decide), if_pos (show (2 : Int32) = 2 from rfl), if_neg (show ¬ (2 : Int32) = 1 by decide), if_pos (show (2 : Int32) = 2 from rfl), e, nI_clamp (by omega)]
  exact ⟨rfl, rfl⟩
theorem ly15 {s : Sn} {k : Nat} {v : Int32} {n : Nat} (h : n ≠ 15) : (sI s (41, 15, 0) k v).1 (41, n, 0) = s.1 (41, n, 0) := sI_nr (fun z => h (congrArg (fun r : Rf => r.2.1) z))
theorem ly16 {s : Sn} {k : Nat} {v : Int32} {n : Nat} (h : n ≠ 16) : (sI s (41, 16, 0) k v).1 (41, n, 0) = s.1 (41, n, 0) := sI_nr (fun z => h (congrArg (fun r : Rf => r.2.1) z))
theorem ly17 {s : Sn} {k : Nat} {v : Int32} {n : Nat} (h : n ≠ 17) : (sI s (41, 17, 0) k v).1 (41, n, 0) = s.1 (41, n, 0) := sI_nr (fun z => h (congrArg (fun r : Rf => r.2.1) z))
def ly3 (s : Sn) (a : Nat) (y v u : Int32) : Sn := sI (sI (sI s (41, 15, 0) a y) (41, 16, 0) a v) (41, 17, 0) a u
theorem ly3_T {s : Sn} {y v u : Int32} : ((ly3 s a y v u).1 (41, 15, 0), (ly3 s a y v u).1 (41, 16, 0), (ly3 s a y v u).1 (41, 17, 0), (ly3 s a y v u).1 (41, 18, 0)) = (upd (s.1 (41, 15, 0)) a y, upd (s.1 (41, 16, 0)) a v, upd (s.1 (41, 17, 0)) a u, s.1 (41, 18, 0)) := by
  unfold ly3
  rw [ly17 (by decide), ly16 (by decide), sI_row, ly17 (by decide), sI_row, ly15 (by decide), sI_row, ly16 (by decide), ly15 (by decide), ly17 (by decide), ly16 (by decide), ly15 (by decide)]
theorem ly3_F {s : Sn} {y v u : Int32} : Fr [(41, 15, 0), (41, 16, 0), (41, 17, 0), (41, 18, 0)] s (ly3 s a y v u) := ((Fr.rf.pt (by decide)).pt (by decide)).pt (by decide)
theorem l8_lay {s0 s : Sn} {v : Int32} (ha : a < 5) (hb : b < 4) (hF0 : Fr [(41, 15, 0), (41, 16, 0), (41, 17, 0), (41, 18, 0)] s0 s) : ∀ k, k ≤ 24 → ∀ s1 : Sn, s1.1 (41, 18, 0) = cp2 (s.1 (41, 18, 0)) (s.1 (41, 14, 0)) (24 * b) (24 * a) k → Fr [(41, 18, 0)] s s1 → Wp (d + 2) MX8_lay 134 [some (vR 40 0 0), some (vI (nI a)), some (vI 2), some (vI (nI b)), some (vI v), some (vI (nI k))] [] (hN s1) (Pv fun z t => z = v ∧ (t.1 (41, 15, 0) = s.1 (41, 15, 0) ∧ t.1 (41, 16, 0) = s.1 (41, 16, 0) ∧ t.1 (41, 17, 0) = s.1 (41, 17, 0) ∧ t.1 (41, 18, 0) = cp2 (s.1 (41, 18, 0)) (s.1 (41, 14, 0)) (24 * b) (24 * a) 24) ∧ Fr [(41, 15, 0), (41, 16, 0), (41, 17, 0), (41, 18, 0)] s0 t) := by
  refine ind_up (fun k hk ih => ?_)
  intro s1 e1 hF
  refine wp_iload dX8_lay_134 rfl rfl ?_
  refine wp_bipush (v := 24) dX8_lay_136 (by decide) rfl ?_
  refine wp_icmp_ge (t := 176) dX8_lay_138 rfl rfl (fun h138 => ?_) (fun h138 => ?_)
  · have hk2 : k = 24 := by have := (nI_leI (a := 24) (by omega) (by omega)).mp h138; omega
    subst hk2
    refine wp_iload dX8_lay_176 rfl rfl ?_
    refine wp_iret dX8_lay_178 rfl rfl ?_
    exact ⟨_, _, rfl, rfl, rfl, ⟨hF.1 _ (by decide), hF.1 _ (by decide), hF.1 _ (by decide), e1⟩, hF0.tr (hF.wd (by decide))⟩
  · have hl : k < 24 := by have := mt (nI_leI (a := 24) (by omega) (by omega)).mpr h138; omega
    refine wp_iload_n dX8_lay_141 rfl rfl ?_
    refine wp_iconst (v := 2) dX8_lay_142 (by decide) rfl ?_
    refine wp_icmp_ne (t := 176) dX8_lay_143 rfl rfl (fun h143 => absurd rfl h143) (fun h143 => ?_)
    refine wp_aload_n dX8_lay_146 rfl rfl ?_
    refine wn_getR dX8_lay_147 fRX8_66 o40 rfl rfl rfl ?_
    refine wp_bipush (v := 24) dX8_lay_150 (by decide) rfl ?_
    refine wp_iload_n dX8_lay_152 rfl rfl ?_
    refine wp_imul dX8_lay_153 rfl ?_
    refine wp_iload dX8_lay_154 rfl rfl ?_
    refine wp_iadd dX8_lay_156 rfl ?_
    refine wp_aload_n dX8_lay_157 rfl rfl ?_
    refine wn_getR dX8_lay_158 fRX8_54 o40 rfl rfl rfl ?_
    refine wp_bipush (v := 24) dX8_lay_161 (by decide) rfl ?_
    refine wp_iload_n dX8_lay_163 rfl rfl ?_
    refine wp_imul dX8_lay_164 rfl ?_
    refine wp_iload dX8_lay_165 rfl rfl ?_
    refine wp_iadd dX8_lay_167 rfl ?_
    refine wn_iald dX8_lay_168 (o41 14 rfl) rfl (nIx ix_24 (by omega)) (by show _ < 96; omega) rfl ?_
    rw [hF.1 (41, 14, 0) (by decide)]
    refine wn_iast dX8_lay_169 (o41 18 rfl) rfl (nIx ix_24 (by omega)) (by show _ < 120; omega) rfl ?_
    refine wp_iinc (l' := [_, _, _, _, _, some _]) (v := 1) dX8_lay_170 rfl (by decide) rfl rfl ?_
    refine wp_goto (t := 134) dX8_lay_173 rfl ?_
    rw [nI_1]
    exact ih hl _ (by rw [sI_row, e1, cp2_s]) (hF.pt (by decide))
theorem c8_lay {s : Sn} {c : Nat} {x y k : Int32} (hc : c ≤ 12) (h1 : s.1 (41, 0, 0) 1 = nI c) : Ca (d + 2) MX8_lay [vR 40 0 0, vI x, vI y, vI k] (hN s) (Pv fun z t => z = laA (s.1 (41, 12, 0)) (s.1 (41, 15, 0), s.1 (41, 16, 0), s.1 (41, 17, 0), s.1 (41, 18, 0)) c x y k ∧ (t.1 (41, 15, 0), t.1 (41, 16, 0), t.1 (41, 17, 0), t.1 (41, 18, 0)) = laT (s.1 (41, 0, 0)) (s.1 (41, 12, 0)) (s.1 (41, 13, 0)) (s.1 (41, 14, 0)) (s.1 (41, 15, 0), s.1 (41, 16, 0), s.1 (41, 17, 0), s.1 (41, 18, 0)) c x y k ∧ Fr [(41, 15, 0), (41, 16, 0), (41, 17, 0), (41, 18, 0)] s t) := by
  change Wp _ _ 0 [some _, some _, some _, some _, none, none] [] _ _
  refine wp_iload_n dX8_lay_0 rfl rfl ?_
  refine wn_callS1d dX8_lay_1 rRX8_248 (Nat.le_of_ble_eq_true rfl) rfl (Nat.le_of_ble_eq_true rfl) rfl (c8_isSlot) ?_
  refine wp_if_eq_b (t := 41) dX8_lay_4 rfl rfl (fun h4 => ?_) (fun h4 => ?_)
  · refine wp_ldc dX8_lay_41 kRX8_83 rfl ?_
    refine wp_iret dX8_lay_43 rfl rfl ?_
    obtain ⟨e1, e2⟩ := la_no (f := (s.1 (41, 0, 0))) (so := (s.1 (41, 12, 0))) (si := (s.1 (41, 13, 0))) (ce := (s.1 (41, 14, 0))) (T := (s.1 (41, 15, 0), s.1 (41, 16, 0), s.1 (41, 17, 0), s.1 (41, 18, 0))) (c := c) (x := x) (y := y) (k := k) (fun z => h4 z.1)
    exact ⟨_, _, rfl, rfl, e1.symm, e2.symm, Fr.rf⟩
  · refine wp_iload_n dX8_lay_7 rfl rfl ?_
    refine wp_iconst (v := 0) dX8_lay_8 (by decide) rfl ?_
    refine wp_iconst (v := 3) dX8_lay_9 (by decide) rfl ?_
    refine wn_callS3d dX8_lay_10 rRX8_75 (Nat.le_of_ble_eq_true rfl) rfl rfl rfl (Nat.le_of_ble_eq_true rfl) rfl (c8_in) ?_
    refine wp_if_eq_b (t := 41) dX8_lay_13 rfl rfl (fun h13 => ?_) (fun h13 => ?_)
    · refine wp_ldc dX8_lay_41 kRX8_83 rfl ?_
      refine wp_iret dX8_lay_43 rfl rfl ?_
      obtain ⟨e1, e2⟩ := la_no (f := (s.1 (41, 0, 0))) (so := (s.1 (41, 12, 0))) (si := (s.1 (41, 13, 0))) (ce := (s.1 (41, 14, 0))) (T := (s.1 (41, 15, 0), s.1 (41, 16, 0), s.1 (41, 17, 0), s.1 (41, 18, 0))) (c := c) (x := x) (y := y) (k := k) (fun z => h13 z.2.1)
      exact ⟨_, _, rfl, rfl, e1.symm, e2.symm, Fr.rf⟩
    · refine wp_iload_n dX8_lay_16 rfl rfl ?_
      refine wp_iconst (v := 1) dX8_lay_17 (by decide) rfl ?_
      refine wp_icmp_ne (t := 29) dX8_lay_18 rfl rfl (fun h18 => ?_) (fun h18 => ?_)
      · refine wp_iload_n dX8_lay_29 rfl rfl ?_
        refine wp_iconst (v := 2) dX8_lay_30 (by decide) rfl ?_
        refine wp_icmp_ne (t := 44) dX8_lay_31 rfl rfl (fun h31 => ?_) (fun h31 => ?_)
        · obtain ⟨a, ha, rfl⟩ := slt h4
          refine wp_iload_n dX8_lay_44 rfl rfl ?_
          refine wp_iconst (v := 2) dX8_lay_45 (by decide) rfl ?_
          refine wp_icmp_ne (t := 61) dX8_lay_46 rfl rfl (fun h46 => ?_) (fun h46 => absurd h46 h31)
          refine wp_aload_n dX8_lay_61 rfl rfl ?_
          refine wn_getR dX8_lay_62 fRX8_57 o40 rfl rfl rfl ?_
          refine wp_iload_n dX8_lay_65 rfl rfl ?_
          refine wn_iald dX8_lay_66 (o41 15 rfl) rfl (nIx rfl (by omega)) (show a < 5 from ha) rfl ?_
          refine wp_istore (l' := [_, _, _, _, some _, _]) dX8_lay_67 rfl rfl ?_
          refine wp_aload_n dX8_lay_69 rfl rfl ?_
          refine wn_getR dX8_lay_70 fRX8_57 o40 rfl rfl rfl ?_
          refine wp_iload_n dX8_lay_73 rfl rfl ?_
          refine wp_iload_n dX8_lay_74 rfl rfl ?_
          refine wn_iast dX8_lay_75 (o41 15 rfl) rfl (nIx rfl (by omega)) (show a < 5 from ha) rfl ?_
          refine wp_aload_n dX8_lay_76 rfl rfl ?_
          refine wn_getR dX8_lay_77 fRX8_60 o40 rfl rfl rfl ?_
          refine wp_iload_n dX8_lay_80 rfl rfl ?_
          refine wp_iload_n dX8_lay_81 rfl rfl ?_
          refine wp_iconst (v := 1) dX8_lay_82 (by decide) rfl ?_
          refine wp_icmp_ne (t := 95) dX8_lay_83 rfl rfl (fun h83 => ?_) (fun h83 => absurd h83 h18)
          refine wp_iload_n dX8_lay_95 rfl rfl ?_
          refine wp_iconst (v := 2) dX8_lay_96 (by decide) rfl ?_
          refine wp_icmp_ne (t := 109) dX8_lay_97 rfl rfl (fun h97 => ?_) (fun h97 => absurd h97 h31)
          refine wp_iload_n dX8_lay_109 rfl rfl ?_
          refine wn_iast dX8_lay_110 (o41 16 rfl) rfl (nIx rfl (by omega)) (show a < 5 from ha) rfl ?_
          refine wp_aload_n dX8_lay_111 rfl rfl ?_
          refine wn_getR dX8_lay_112 fRX8_63 o40 rfl rfl rfl ?_
          refine wp_iload_n dX8_lay_115 rfl rfl ?_
          refine wp_iload_n dX8_lay_116 rfl rfl ?_
          refine wp_iconst (v := 1) dX8_lay_117 (by decide) rfl ?_
          refine wp_icmp_ne (t := 129) dX8_lay_118 rfl rfl (fun h118 => ?_) (fun h118 => absurd h118 h18)
          refine wp_iconst (v := 0) dX8_lay_129 (by decide) rfl ?_
          refine wn_iast dX8_lay_130 (o41 17 rfl) rfl (nIx rfl (by omega)) (show a < 5 from ha) rfl ?_
          refine wp_iconst (v := 0) dX8_lay_131 (by decide) rfl ?_
          refine wp_istore (l' := [_, _, _, _, _, some _]) dX8_lay_132 rfl rfl ?_
          refine wp_iload dX8_lay_134 rfl rfl ?_
          refine wp_bipush (v := 24) dX8_lay_136 (by decide) rfl ?_
          refine wp_icmp_ge (t := 176) dX8_lay_138 rfl rfl (fun h138 => absurd h138 (by decide)) (fun h138 => ?_)
          refine wp_iload_n dX8_lay_141 rfl rfl ?_
          refine wp_iconst (v := 2) dX8_lay_142 (by decide) rfl ?_
          refine wp_icmp_ne (t := 176) dX8_lay_143 rfl rfl (fun h143 => ?_) (fun h143 => absurd h143 h31)
          refine wp_iload dX8_lay_176 rfl rfl ?_
          refine wp_iret dX8_lay_178 rfl rfl ?_
          obtain ⟨e1, e2⟩ := la_0 (f := (s.1 (41, 0, 0))) (so := (s.1 (41, 12, 0))) (si := (s.1 (41, 13, 0))) (ce := (s.1 (41, 14, 0))) (T := (s.1 (41, 15, 0), s.1 (41, 16, 0), s.1 (41, 17, 0), s.1 (41, 18, 0))) (c := c) (y := y) (k := k) ha ⟨h4, h13, fun e => absurd e h18, fun e => absurd e h31⟩ h18 h31
          exact ⟨_, _, rfl, rfl, e1.symm, (ly3_T.trans e2.symm), ly3_F⟩
        · refine wp_iload_n dX8_lay_34 rfl rfl ?_
          refine wn_callS1d dX8_lay_35 rRX8_168 (Nat.le_of_ble_eq_true rfl) rfl (Nat.le_of_ble_eq_true rfl) rfl (c8_isSheet) ?_
          refine wp_if_ne_b (t := 44) dX8_lay_38 rfl rfl (fun h38 => ?_) (fun h38 => ?_)
          · obtain ⟨a, ha, rfl⟩ := slt h4
            refine wp_iload_n dX8_lay_44 rfl rfl ?_
            refine wp_iconst (v := 2) dX8_lay_45 (by decide) rfl ?_
            refine wp_icmp_ne (t := 61) dX8_lay_46 rfl rfl (fun h46 => absurd h31 h46) (fun h46 => ?_)
            obtain ⟨b, hb, rfl⟩ := sht h38
            refine wp_aload_n dX8_lay_49 rfl rfl ?_
            refine wn_getR dX8_lay_50 fRX8_48 o40 rfl rfl rfl ?_
            refine wp_iload_n dX8_lay_53 rfl rfl ?_
            refine wn_iald dX8_lay_54 (o41 12 rfl) rfl (nIx rfl (by omega)) (show b < 4 from hb) rfl ?_
            refine wp_if_ge (t := 61) dX8_lay_55 rfl rfl (fun h55 => ?_) (fun h55 => ?_)
            · refine wp_aload_n dX8_lay_61 rfl rfl ?_
              refine wn_getR dX8_lay_62 fRX8_57 o40 rfl rfl rfl ?_
              refine wp_iload_n dX8_lay_65 rfl rfl ?_
              refine wn_iald dX8_lay_66 (o41 15 rfl) rfl (nIx rfl (by omega)) (show a < 5 from ha) rfl ?_
              refine wp_istore (l' := [_, _, _, _, some _, _]) dX8_lay_67 rfl rfl ?_
              refine wp_aload_n dX8_lay_69 rfl rfl ?_
              refine wn_getR dX8_lay_70 fRX8_57 o40 rfl rfl rfl ?_
              refine wp_iload_n dX8_lay_73 rfl rfl ?_
              refine wp_iload_n dX8_lay_74 rfl rfl ?_
              refine wn_iast dX8_lay_75 (o41 15 rfl) rfl (nIx rfl (by omega)) (show a < 5 from ha) rfl ?_
              refine wp_aload_n dX8_lay_76 rfl rfl ?_
              refine wn_getR dX8_lay_77 fRX8_60 o40 rfl rfl rfl ?_
              refine wp_iload_n dX8_lay_80 rfl rfl ?_
              refine wp_iload_n dX8_lay_81 rfl rfl ?_
              refine wp_iconst (v := 1) dX8_lay_82 (by decide) rfl ?_
              refine wp_icmp_ne (t := 95) dX8_lay_83 rfl rfl (fun h83 => ?_) (fun h83 => absurd h83 h18)
              refine wp_iload_n dX8_lay_95 rfl rfl ?_
              refine wp_iconst (v := 2) dX8_lay_96 (by decide) rfl ?_
              refine wp_icmp_ne (t := 109) dX8_lay_97 rfl rfl (fun h97 => absurd h31 h97) (fun h97 => ?_)
              refine wp_aload_n dX8_lay_100 rfl rfl ?_
              refine wn_getR dX8_lay_101 fRX8_51 o40 rfl rfl rfl ?_
              refine wp_iload_n dX8_lay_104 rfl rfl ?_
              refine wn_iald dX8_lay_105 (o41 13 rfl) rfl (nIx rfl (by omega)) (show b < 4 from hb) rfl ?_
              refine wp_goto (t := 110) dX8_lay_106 rfl ?_
              rw [ly15 (show (13 : Nat) ≠ 15 by decide)]
              refine wn_iast dX8_lay_110 (o41 16 rfl) rfl (nIx rfl (by omega)) (show a < 5 from ha) rfl ?_
              refine wp_aload_n dX8_lay_111 rfl rfl ?_
              refine wn_getR dX8_lay_112 fRX8_63 o40 rfl rfl rfl ?_
              refine wp_iload_n dX8_lay_115 rfl rfl ?_
              refine wp_iload_n dX8_lay_116 rfl rfl ?_
              refine wp_iconst (v := 1) dX8_lay_117 (by decide) rfl ?_
              refine wp_icmp_ne (t := 129) dX8_lay_118 rfl rfl (fun h118 => ?_) (fun h118 => absurd h118 h18)
              refine wp_iconst (v := 0) dX8_lay_129 (by decide) rfl ?_
              refine wn_iast dX8_lay_130 (o41 17 rfl) rfl (nIx rfl (by omega)) (show a < 5 from ha) rfl ?_
              refine wp_iconst (v := 0) dX8_lay_131 (by decide) rfl ?_
              refine wp_istore (l' := [_, _, _, _, _, some _]) dX8_lay_132 rfl rfl ?_
              subst h31
              obtain ⟨e1, e2⟩ := la_2 (f := (s.1 (41, 0, 0))) (so := (s.1 (41, 12, 0))) (si := (s.1 (41, 13, 0))) (ce := (s.1 (41, 14, 0))) (T := (s.1 (41, 15, 0), s.1 (41, 16, 0), s.1 (41, 17, 0), s.1 (41, 18, 0))) (c := c) ha hb ⟨h4, h13, fun e => absurd e (by decide), fun _ => h38⟩ (Int32.not_lt.mpr h55)
              refine (l8_lay (d := d) (s0 := s) (s := ly3 s a 2 ((s.1 (41, 13, 0)) b) 0) ha hb ly3_F 0 (Nat.zero_le _) _ (by rw [cp2_0]) Fr.rf).conseq ?_
              rintro v σ ⟨z, t, rfl, rfl, q1, ⟨q2, q3, q4, q5⟩, q6⟩
              refine ⟨z, t, rfl, rfl, q1.trans e1.symm, ?_, q6⟩
              have e14 : (ly3 s a 2 ((s.1 (41, 13, 0)) b) 0).1 (41, 14, 0) = (s.1 (41, 14, 0)) := ly3_F.1 _ (by decide)
              have eT := ly3_T (s := s) (a := a) (y := 2) (v := (s.1 (41, 13, 0)) b) (u := 0)
              rw [e2, q2, q3, q4, q5, e14]
              simp only [Prod.mk.injEq] at eT
              rw [eT.1, eT.2.1, eT.2.2.1, eT.2.2.2]
            · refine wp_ldc dX8_lay_58 kRX8_171 rfl ?_
              refine wp_iret dX8_lay_60 rfl rfl ?_
              subst h31
              obtain ⟨e1, e2⟩ := la_n (f := (s.1 (41, 0, 0))) (so := (s.1 (41, 12, 0))) (si := (s.1 (41, 13, 0))) (ce := (s.1 (41, 14, 0))) (T := (s.1 (41, 15, 0), s.1 (41, 16, 0), s.1 (41, 17, 0), s.1 (41, 18, 0))) (c := c) (x := nI a) (k := nI b) ⟨h4, h13, fun e => absurd e (by decide), fun _ => h38⟩ (by rw [nI_clamp (by omega)]; exact Int32.not_le.mp h55)
              exact ⟨_, _, rfl, rfl, e1.symm, e2.symm, Fr.rf⟩
          · refine wp_ldc dX8_lay_41 kRX8_83 rfl ?_
            refine wp_iret dX8_lay_43 rfl rfl ?_
            obtain ⟨e1, e2⟩ := la_no (f := (s.1 (41, 0, 0))) (so := (s.1 (41, 12, 0))) (si := (s.1 (41, 13, 0))) (ce := (s.1 (41, 14, 0))) (T := (s.1 (41, 15, 0), s.1 (41, 16, 0), s.1 (41, 17, 0), s.1 (41, 18, 0))) (c := c) (x := x) (y := y) (k := k) (fun z => h38 (z.2.2.2 h31))
            exact ⟨_, _, rfl, rfl, e1.symm, e2.symm, Fr.rf⟩
      · refine wp_aload_n dX8_lay_21 rfl rfl ?_
        refine wp_iload_n dX8_lay_22 rfl rfl ?_
        refine wn_callV1d dX8_lay_23 rRX8_103 (rcv_of o40 rfl) (Nat.le_of_ble_eq_true rfl) rfl (Nat.le_of_ble_eq_true rfl) rfl (c8_isLog) ?_
        rw [h1]
        refine wp_if_eq_b (t := 41) dX8_lay_26 rfl rfl (fun h26 => ?_) (fun h26 => ?_)
        · refine wp_ldc dX8_lay_41 kRX8_83 rfl ?_
          refine wp_iret dX8_lay_43 rfl rfl ?_
          obtain ⟨e1, e2⟩ := la_no (f := (s.1 (41, 0, 0))) (so := (s.1 (41, 12, 0))) (si := (s.1 (41, 13, 0))) (ce := (s.1 (41, 14, 0))) (T := (s.1 (41, 15, 0), s.1 (41, 16, 0), s.1 (41, 17, 0), s.1 (41, 18, 0))) (c := c) (x := x) (y := y) (k := k) (fun z => h26 (z.2.2.1 h18))
          exact ⟨_, _, rfl, rfl, e1.symm, e2.symm, Fr.rf⟩
        · obtain ⟨g, hg, rfl⟩ := log_nat hc h26
          have hg12 : g < 12 := by omega
          refine wp_iload_n dX8_lay_29 rfl rfl ?_
          refine wp_iconst (v := 2) dX8_lay_30 (by decide) rfl ?_
          refine wp_icmp_ne (t := 44) dX8_lay_31 rfl rfl (fun h31 => ?_) (fun h31 => absurd (h18.symm.trans h31) (by decide))
          obtain ⟨a, ha, rfl⟩ := slt h4
          refine wp_iload_n dX8_lay_44 rfl rfl ?_
          refine wp_iconst (v := 2) dX8_lay_45 (by decide) rfl ?_
          refine wp_icmp_ne (t := 61) dX8_lay_46 rfl rfl (fun h46 => ?_) (fun h46 => absurd h46 h31)
          refine wp_aload_n dX8_lay_61 rfl rfl ?_
          refine wn_getR dX8_lay_62 fRX8_57 o40 rfl rfl rfl ?_
          refine wp_iload_n dX8_lay_65 rfl rfl ?_
          refine wn_iald dX8_lay_66 (o41 15 rfl) rfl (nIx rfl (by omega)) (show a < 5 from ha) rfl ?_
          refine wp_istore (l' := [_, _, _, _, some _, _]) dX8_lay_67 rfl rfl ?_
          refine wp_aload_n dX8_lay_69 rfl rfl ?_
          refine wn_getR dX8_lay_70 fRX8_57 o40 rfl rfl rfl ?_
          refine wp_iload_n dX8_lay_73 rfl rfl ?_
          refine wp_iload_n dX8_lay_74 rfl rfl ?_
          refine wn_iast dX8_lay_75 (o41 15 rfl) rfl (nIx rfl (by omega)) (show a < 5 from ha) rfl ?_
          refine wp_aload_n dX8_lay_76 rfl rfl ?_
          refine wn_getR dX8_lay_77 fRX8_60 o40 rfl rfl rfl ?_
          refine wp_iload_n dX8_lay_80 rfl rfl ?_
          refine wp_iload_n dX8_lay_81 rfl rfl ?_
          refine wp_iconst (v := 1) dX8_lay_82 (by decide) rfl ?_
          refine wp_icmp_ne (t := 95) dX8_lay_83 rfl rfl (fun h83 => absurd h18 h83) (fun h83 => ?_)
          refine wp_aload_n dX8_lay_86 rfl rfl ?_
          refine wp_iload_n dX8_lay_87 rfl rfl ?_
          refine wp_iconst (v := 0) dX8_lay_88 (by decide) rfl ?_
          refine wn_callV2d dX8_lay_89 rRX8_93 (rcv_of o40 rfl) (Nat.le_of_ble_eq_true rfl) rfl rfl (Nat.le_of_ble_eq_true rfl) rfl (c8_of (j := g) (w := 0) hg12 (by decide)) ?_
          refine wp_goto (t := 110) dX8_lay_92 rfl ?_
          simp only [ly15 (show (0 : Nat) ≠ 15 by decide)]
          refine wn_iast dX8_lay_110 (o41 16 rfl) rfl (nIx rfl (by omega)) (show a < 5 from ha) rfl ?_
          refine wp_aload_n dX8_lay_111 rfl rfl ?_
          refine wn_getR dX8_lay_112 fRX8_63 o40 rfl rfl rfl ?_
          refine wp_iload_n dX8_lay_115 rfl rfl ?_
          refine wp_iload_n dX8_lay_116 rfl rfl ?_
          refine wp_iconst (v := 1) dX8_lay_117 (by decide) rfl ?_
          refine wp_icmp_ne (t := 129) dX8_lay_118 rfl rfl (fun h118 => absurd h18 h118) (fun h118 => ?_)
          refine wp_aload_n dX8_lay_121 rfl rfl ?_
          refine wp_iload_n dX8_lay_122 rfl rfl ?_
          refine wn_callV1d dX8_lay_123 rRX8_113 (rcv_of o40 rfl) (Nat.le_of_ble_eq_true rfl) rfl (Nat.le_of_ble_eq_true rfl) rfl (c8_worth hg12) ?_
          refine wp_goto (t := 130) dX8_lay_126 rfl ?_
          simp only [ly16 (show (0 : Nat) ≠ 16 by decide), ly15 (show (0 : Nat) ≠ 15 by decide)]
          refine wn_iast dX8_lay_130 (o41 17 rfl) rfl (nIx rfl (by omega)) (show a < 5 from ha) rfl ?_
          refine wp_iconst (v := 0) dX8_lay_131 (by decide) rfl ?_
          refine wp_istore (l' := [_, _, _, _, _, some _]) dX8_lay_132 rfl rfl ?_
          refine wp_iload dX8_lay_134 rfl rfl ?_
          refine wp_bipush (v := 24) dX8_lay_136 (by decide) rfl ?_
          refine wp_icmp_ge (t := 176) dX8_lay_138 rfl rfl (fun h138 => absurd h138 (by decide)) (fun h138 => ?_)
          refine wp_iload_n dX8_lay_141 rfl rfl ?_
          refine wp_iconst (v := 2) dX8_lay_142 (by decide) rfl ?_
          refine wp_icmp_ne (t := 176) dX8_lay_143 rfl rfl (fun h143 => ?_) (fun h143 => absurd h143 h31)
          refine wp_iload dX8_lay_176 rfl rfl ?_
          refine wp_iret dX8_lay_178 rfl rfl ?_
          subst h18
          obtain ⟨e1, e2⟩ := la_1 (f := (s.1 (41, 0, 0))) (so := (s.1 (41, 12, 0))) (si := (s.1 (41, 13, 0))) (ce := (s.1 (41, 14, 0))) (T := (s.1 (41, 15, 0), s.1 (41, 16, 0), s.1 (41, 17, 0), s.1 (41, 18, 0))) (c := c) ha hg12 ⟨h4, h13, fun _ => h26, fun e => absurd e (by decide)⟩
          exact ⟨_, _, rfl, rfl, e1.symm, (ly3_T.trans e2.symm), ly3_F⟩
theorem c1_takeS {s : Sn} (ha : a < 5) (hg : g < 12) : Ca d MX1_takeOver [vR 31 a 0, vR 12 0 g] (hN s) (Pn fun t => (∀ w, w < 5 → t.1 (31, a, 0) w = s.1 (12, 0, g) w) ∧ FQ (fun r => r = (31, a, 0)) s t) := by
  change Wp _ _ 0 [some _, some _] [] _ _
  refine wp_aload_n dX1_takeOver_0 rfl rfl ?_
  refine wp_aload_n dX1_takeOver_1 rfl rfl ?_
  refine wn_getI dX1_takeOver_2 fRX1_9 (o12 (by decide) hg) rfl rfl ?_
  refine wn_putI dX1_takeOver_5 fRX1_9 (o31 ha) rfl rfl rfl ?_
  refine wp_aload_n dX1_takeOver_8 rfl rfl ?_
  refine wp_aload_n dX1_takeOver_9 rfl rfl ?_
  refine wn_getI dX1_takeOver_10 fRX1_15 (o12 (by decide) hg) rfl rfl ?_
  rw [sI_nt (by decide)]
  refine wn_putI dX1_takeOver_13 fRX1_15 (o31 ha) rfl rfl rfl ?_
  refine wp_aload_n dX1_takeOver_16 rfl rfl ?_
  refine wp_aload_n dX1_takeOver_17 rfl rfl ?_
  refine wn_getI dX1_takeOver_18 fRX1_18 (o12 (by decide) hg) rfl rfl ?_
  rw [sI_nt (by decide), sI_nt (by decide)]
  refine wn_putI dX1_takeOver_21 fRX1_18 (o31 ha) rfl rfl rfl ?_
  refine wp_aload_n dX1_takeOver_24 rfl rfl ?_
  refine wp_aload_n dX1_takeOver_25 rfl rfl ?_
  refine wn_getI dX1_takeOver_26 fRX1_21 (o12 (by decide) hg) rfl rfl ?_
  rw [sI_nt (by decide), sI_nt (by decide), sI_nt (by decide)]
  refine wn_putI dX1_takeOver_29 fRX1_21 (o31 ha) rfl rfl rfl ?_
  refine wp_aload_n dX1_takeOver_32 rfl rfl ?_
  refine wp_aload_n dX1_takeOver_33 rfl rfl ?_
  refine wn_getI dX1_takeOver_34 fRX1_24 (o12 (by decide) hg) rfl rfl ?_
  rw [sI_nt (by decide), sI_nt (by decide), sI_nt (by decide), sI_nt (by decide)]
  refine wn_putI dX1_takeOver_37 fRX1_24 (o31 ha) rfl rfl rfl ?_
  refine wp_ret dX1_takeOver_40 rfl ?_
  have hX : (fun r : Rf => r = (31, a, 0)) (31, a, 0) := rfl
  refine ⟨_, rfl, rfl, fun w hw => ?_, ((((FQ.pt (X := fun r : Rf => r = (31, a, 0)) FQ.rf hX).pt hX).pt hX).pt hX).pt hX⟩
  rw [sI_row, sI_row, sI_row, sI_row, sI_row]
  exact upd_cp fun h4 => upd_cp fun h3 => upd_cp fun h2 => upd_cp fun h1 => upd_cp fun h0 => by omega
theorem c4_takeS {s : Sn} (ha : a < 5) (hb : b < 4) : Ca (d + 1) MX4_takeOver [vR 32 a 0, vR 28 b 0] (hN s) (Pn fun t => (t.1 (32, a, 0) 2 = s.1 (28, b, 0) 2 ∧ ∀ k, k < 24 → t.1 (33, a, 0) k = s.1 (29, b, 0) k) ∧ FQ (fun r => r = (32, a, 0) ∨ r = (33, a, 0)) s t) := by
  change Wp _ _ 0 [some _, some _] [] _ _
  refine wp_aload_n dX4_takeOver_0 rfl rfl ?_
  refine wp_aload_n dX4_takeOver_1 rfl rfl ?_
  refine wn_getI dX4_takeOver_2 fRX4_15 (o28 hb) rfl rfl ?_
  refine wn_putI dX4_takeOver_5 fRX4_15 (o32 ha) rfl rfl rfl ?_
  refine wp_aload_n dX4_takeOver_8 rfl rfl ?_
  refine wp_aload_n dX4_takeOver_9 rfl rfl ?_
  refine wn_getI dX4_takeOver_10 fRX4_19 (o28 hb) rfl rfl ?_
  rw [sI_nt (by decide)]
  refine wn_putI dX4_takeOver_13 fRX4_19 (o32 ha) rfl rfl rfl ?_
  refine wp_aload_n dX4_takeOver_16 rfl rfl ?_
  refine wn_getR dX4_takeOver_17 fRX4_9 (o28 hb) rfl rfl rfl ?_
  refine wp_iconst (v := 0) dX4_takeOver_20 (by decide) rfl ?_
  refine wp_aload_n dX4_takeOver_21 rfl rfl ?_
  refine wn_getR dX4_takeOver_22 fRX4_9 (o32 ha) rfl rfl rfl ?_
  refine wp_iconst (v := 0) dX4_takeOver_25 (by decide) rfl ?_
  refine wp_bipush (v := 24) dX4_takeOver_26 (by decide) rfl ?_
  refine wn_acopy dX4_takeOver_28 rRX4_22 (o33 ha) (o29 hb) rfl rfl (N := 24) (D := 0) (S := 0) ⟨by decide, by decide⟩ ⟨by decide, by decide⟩ ⟨by decide, by decide⟩ (Nat.le_of_ble_eq_true rfl) (Nat.le_of_ble_eq_true rfl) (by omega) (Nat.le_of_ble_eq_true rfl) rfl ?_
  refine wp_ret dX4_takeOver_31 rfl ?_
  refine ⟨_, rfl, rfl, ⟨?_, fun k hk => ?_⟩, ((FQ.pt (X := fun r : Rf => r = (32, a, 0) ∨ r = (33, a, 0)) FQ.rf (Or.inl rfl)).pt (Or.inl rfl)).vt (Or.inr rfl)⟩
  · rw [sV_nr (fun z => absurd (congrArg Prod.fst z) (by show ¬ 32 = 33; decide)), sI_row, upd_eq]
  · rw [sV_eq, sI_nt (by decide), sI_nt (by decide)]
    exact (if_pos (by omega)).trans (by rw [Nat.zero_add, Nat.sub_zero])
theorem SL.cg {s t : Sn} {T T' : F4} (h : SL s T) (ha : a < 5) (hF : ∀ b, b < 5 → b ≠ a → t.1 (30, b, 0) = s.1 (30, b, 0) ∧ t.1 (31, b, 0) = s.1 (31, b, 0) ∧ t.1 (32, b, 0) = s.1 (32, b, 0) ∧ t.1 (33, b, 0) = s.1 (33, b, 0)) (hT : ∀ b, b ≠ a → T'.1 b = T.1 b ∧ T'.2.1 b = T.2.1 b ∧ T'.2.2.1 b = T.2.2.1 b ∧ ∀ k, k < 24 → T'.2.2.2 (24 * b + k) = T.2.2.2 (24 * b + k)) (h0 : t.1 (30, a, 0) 2 = T'.1 a ∧ (T'.1 a = 1 → ∃ k, k ≤ 5 ∧ T'.2.1 a = nI k ∧ t.1 (31, a, 0) 0 = nI k ∧ wor (nI k) (t.1 (31, a, 0) 2) = T'.2.2.1 a) ∧ (T'.1 a = 2 → t.1 (32, a, 0) 2 = T'.2.1 a ∧ ∀ k, k < 24 → t.1 (33, a, 0) k = T'.2.2.2 (24 * a + k)) ∧ (T'.1 a = 3 → t.1 (30, a, 0) 3 = T'.2.1 a)) : SL t T' := fun b hb => by
  by_cases e : b = a
  · subst e; exact h0
  · obtain ⟨f1, f2, f3, f4⟩ := hF b hb e
    obtain ⟨t1, t2, t3, t4⟩ := hT b e
    obtain ⟨p1, p2, p3, p4⟩ := h b hb
    rw [f1, f2, f3, f4, t1, t2, t3]
    exact ⟨p1, p2, fun z => ⟨(p3 z).1, fun k hk => by rw [t4 k hk]; exact (p3 z).2 k hk⟩, p4⟩
theorem nq {t u a b : Nat} (h : t ≠ u) : ((t, b, 0) : Rf) ≠ (u, a, 0) := fun z => h (congrArg Prod.fst z)
theorem nb {t a b : Nat} (h : b ≠ a) : ((t, b, 0) : Rf) ≠ (t, a, 0) := fun z => h (congrArg (fun r : Rf => r.2.1) z)
theorem SL.l0 {s : Sn} {T : F4} {y k : Int32} (h : SL s T) (ha : a < 5) (h1 : ¬ y = 1) (h2 : ¬ y = 2) : SL (sI (sI s (30, a, 0) 2 y) (30, a, 0) 3 k) (upd T.1 a y, upd T.2.1 a k, upd T.2.2.1 a 0, T.2.2.2) := by
  refine h.cg ha (fun b hb e => ⟨by rw [sI_nr (nb e), sI_nr (nb e)], by rw [sI_nr (nq (by decide)), sI_nr (nq (by decide))], by rw [sI_nr (nq (by decide)), sI_nr (nq (by decide))], by rw [sI_nr (nq (by decide)), sI_nr (nq (by decide))]⟩) (fun b e => ⟨upd_ne e, upd_ne e, upd_ne e, fun _ _ => rfl⟩) ⟨?_, fun z => absurd (upd_eq.symm.trans z) h1, fun z => absurd (upd_eq.symm.trans z) h2, fun _ => ?_⟩
  · rw [sI_row, sI_row, upd_ne (by decide), upd_eq]; exact upd_eq.symm
  · rw [sI_row, upd_eq]; exact upd_eq.symm
theorem SL.lz {s : Sn} {T : F4} {k : Int32} (h : SL s T) (ha : a < 5) : SL (sI s (30, a, 0) 2 0) (upd T.1 a 0, upd T.2.1 a k, upd T.2.2.1 a 0, T.2.2.2) := by
  refine h.cg ha (fun b hb e => ⟨by rw [sI_nr (nb e)], by rw [sI_nr (nq (by decide))], by rw [sI_nr (nq (by decide))], by rw [sI_nr (nq (by decide))]⟩) (fun b e => ⟨upd_ne e, upd_ne e, upd_ne e, fun _ _ => rfl⟩) ⟨?_, fun z => absurd (upd_eq.symm.trans z) (by decide), fun z => absurd (upd_eq.symm.trans z) (by decide), fun z => absurd (upd_eq.symm.trans z) (by decide)⟩
  rw [sI_row, upd_eq]; exact upd_eq.symm
theorem SL.l1 {s t : Sn} {T : F4} {k : Nat} {v : Int32} (h : SL s T) (ha : a < 5) (hk : k ≤ 5) (hv : v = nI k) (e0 : t.1 (31, a, 0) 0 = v) {u : Int32} (eu : wor v (t.1 (31, a, 0) 2) = u) (hF : FQ (fun r => r = (31, a, 0)) (sI s (30, a, 0) 2 1) t) : SL t (upd T.1 a 1, upd T.2.1 a v, upd T.2.2.1 a u, T.2.2.2) := by
  subst hv
  refine h.cg ha (fun b hb e => ⟨by rw [hF.1 _ (nq (by decide)), sI_nr (nb e)], by rw [hF.1 _ (nb e), sI_nr (nq (by decide))], by rw [hF.1 _ (nq (by decide)), sI_nr (nq (by decide))], by rw [hF.1 _ (nq (by decide)), sI_nr (nq (by decide))]⟩) (fun b e => ⟨upd_ne e, upd_ne e, upd_ne e, fun _ _ => rfl⟩) ⟨?_, fun _ => ⟨k, hk, upd_eq, e0, eu.trans upd_eq.symm⟩, fun z => absurd (upd_eq.symm.trans z) (by decide), fun z => absurd (upd_eq.symm.trans z) (by decide)⟩
  rw [hF.1 _ (nq (by decide)), sI_row, upd_eq]; exact upd_eq.symm
theorem SL.l2 {s t : Sn} {T : F4} {ce : Fl} {v : Int32} (h : SL s T) (ha : a < 5) (e2 : t.1 (32, a, 0) 2 = v) (e3 : ∀ k, k < 24 → t.1 (33, a, 0) k = ce (24 * b + k)) (hF : FQ (fun r => r = (32, a, 0) ∨ r = (33, a, 0)) (sI s (30, a, 0) 2 2) t) : SL t (upd T.1 a 2, upd T.2.1 a v, upd T.2.2.1 a 0, cp2 T.2.2.2 ce (24 * b) (24 * a) 24) := by
  refine h.cg ha (fun q hq e => ⟨by rw [hF.1 _ (fun z => z.elim (nq (by decide)) (nq (by decide))), sI_nr (nb e)], by rw [hF.1 _ (fun z => z.elim (nq (by decide)) (nq (by decide))), sI_nr (nq (by decide))], by rw [hF.1 _ (fun z => z.elim (nb e) (nq (by decide))), sI_nr (nq (by decide))], by rw [hF.1 _ (fun z => z.elim (nq (by decide)) (nb e)), sI_nr (nq (by decide))]⟩) (fun q e => ⟨upd_ne e, upd_ne e, upd_ne e, fun k hk => if_neg (by omega)⟩) ⟨?_, fun z => absurd (upd_eq.symm.trans z) (by decide), fun _ => ⟨e2.trans upd_eq.symm, fun k hk => ?_⟩, fun z => absurd (upd_eq.symm.trans z) (by decide)⟩
  · rw [hF.1 _ (fun z => z.elim (nq (by decide)) (nq (by decide))), sI_row, upd_eq]; exact upd_eq.symm
  · rw [e3 k hk]
    refine ((if_pos (by omega)).trans ?_).symm
    rw [show 24 * b + (24 * a + k - 24 * a) = 24 * b + k by omega]
theorem c7_lay {s : Sn} {f so si ce : Fl} {T : F4} {c : Nat} {x y k : Int32} (hV : RV s 0 f c) (hD : KD f c) (hS : SH s so si ce) (hQ : SQ so si) (h : SL s T) : Ca (d + 2) MX7_lay [vR 10 0 0, vI x, vI y, vI k] (hN s) (Pv fun z t => z = laA so T c x y k ∧ SL t (laT f so si ce T c x y k) ∧ FQ XL s t) := by
  change Wp _ _ 0 [some _, some _, some _, some _, none] [] _ _
  have hc := hV.2.2.2
  have hlc : s.1 (11, 0, 0) 6 = nI c := (hV.1.sc 1 (by decide)).trans hV.2.2.1
  have hcn : cn f = c := by unfold cn; rw [hV.2.2.1, nI_clamp (by omega)]
  refine wp_iload_n dX7_lay_0 rfl rfl ?_
  refine wn_callS1d dX7_lay_1 rRX7_293 (Nat.le_of_ble_eq_true rfl) rfl (Nat.le_of_ble_eq_true rfl) rfl (c7_isSlot) ?_
  refine wp_if_eq_b (t := 16) dX7_lay_4 rfl rfl (fun h4 => ?_) (fun h4 => ?_)
  · refine wp_ldc dX7_lay_16 kRX7_68 rfl ?_
    refine wp_iret dX7_lay_18 rfl rfl ?_
    obtain ⟨e1, e2⟩ := la_no (f := f) (so := so) (si := si) (ce := ce) (T := T) (c := c) (x := x) (y := y) (k := k) (fun z => h4 z.1)
    exact ⟨_, _, rfl, rfl, e1.symm, by rw [e2]; exact h, FQ.rf⟩
  · refine wp_iload_n dX7_lay_7 rfl rfl ?_
    refine wp_iconst (v := 0) dX7_lay_8 (by decide) rfl ?_
    refine wp_iconst (v := 3) dX7_lay_9 (by decide) rfl ?_
    refine wn_callS3d dX7_lay_10 rRX7_128 (Nat.le_of_ble_eq_true rfl) rfl rfl rfl (Nat.le_of_ble_eq_true rfl) rfl (c7_within) ?_
    refine wp_if_ne_b (t := 19) dX7_lay_13 rfl rfl (fun h13 => ?_) (fun h13 => ?_)
    · refine wp_iload_n dX7_lay_19 rfl rfl ?_
      refine wp_iconst (v := 1) dX7_lay_20 (by decide) rfl ?_
      refine wp_icmp_ne (t := 35) dX7_lay_21 rfl rfl (fun h21 => ?_) (fun h21 => ?_)
      · refine wp_iload_n dX7_lay_35 rfl rfl ?_
        refine wp_iconst (v := 2) dX7_lay_36 (by decide) rfl ?_
        refine wp_icmp_ne (t := 50) dX7_lay_37 rfl rfl (fun h37 => ?_) (fun h37 => ?_)
        · obtain ⟨a, ha, rfl⟩ := slt h4
          refine wp_iload_n dX7_lay_50 rfl rfl ?_
          refine wp_iconst (v := 2) dX7_lay_51 (by decide) rfl ?_
          refine wp_icmp_ne (t := 70) dX7_lay_52 rfl rfl (fun h52 => ?_) (fun h52 => absurd h52 h37)
          refine wp_aload_n dX7_lay_70 rfl rfl ?_
          refine wn_getR dX7_lay_71 fRX7_40 o10 rfl rfl rfl ?_
          refine wp_iload_n dX7_lay_74 rfl rfl ?_
          refine wn_aald26 dX7_lay_75 (nIx rfl (by omega)) ha rfl ?_
          refine wn_getI dX7_lay_76 fRX7_296 (o30 ha) rfl rfl ?_
          refine wp_istore (l' := [_, _, _, _, some _]) dX7_lay_79 rfl rfl ?_
          refine wp_aload_n dX7_lay_81 rfl rfl ?_
          refine wn_getR dX7_lay_82 fRX7_40 o10 rfl rfl rfl ?_
          refine wp_iload_n dX7_lay_85 rfl rfl ?_
          refine wn_aald26 dX7_lay_86 (nIx rfl (by omega)) ha rfl ?_
          refine wp_iload_n dX7_lay_87 rfl rfl ?_
          refine wn_putI dX7_lay_88 fRX7_296 (o30 ha) rfl rfl rfl ?_
          refine wp_iload_n dX7_lay_91 rfl rfl ?_
          refine wp_iconst (v := 1) dX7_lay_92 (by decide) rfl ?_
          refine wp_icmp_ne (t := 120) dX7_lay_93 rfl rfl (fun h93 => ?_) (fun h93 => absurd h93 h21)
          refine wp_iload_n dX7_lay_120 rfl rfl ?_
          refine wp_iconst (v := 2) dX7_lay_121 (by decide) rfl ?_
          refine wp_icmp_ne (t := 146) dX7_lay_122 rfl rfl (fun h122 => ?_) (fun h122 => absurd h122 h37)
          refine wp_iload_n dX7_lay_146 rfl rfl ?_
          refine wp_iconst (v := 3) dX7_lay_147 (by decide) rfl ?_
          refine wp_icmp_ne (t := 161) dX7_lay_148 rfl rfl (fun h148 => ?_) (fun h148 => ?_)
          · refine wp_iload dX7_lay_161 rfl rfl ?_
            refine wp_iret dX7_lay_163 rfl rfl ?_
            obtain ⟨e1, e2⟩ := la_0 (f := f) (so := so) (si := si) (ce := ce) (T := T) (c := c) (y := y) (k := k) ha ⟨h4, h13, fun e => absurd e h21, fun e => absurd e h37⟩ h21 h37
            have y0 : y = 0 := by
              obtain ⟨m, hm, rfl⟩ := nat60 (b := 3) (by decide) h13
              rcases (by omega : m = 0 ∨ m = 1 ∨ m = 2 ∨ m = 3) with e | e | e | e <;> subst e
              · rfl
              · exact absurd rfl h21
              · exact absurd rfl h37
              · exact absurd rfl h148
            subst y0
            exact ⟨_, _, rfl, rfl, by rw [e1]; exact (h a ha).1, by rw [e2]; exact h.lz ha, FQ.rf.pt (Or.inl rfl)⟩
          · refine wp_aload_n dX7_lay_151 rfl rfl ?_
            refine wn_getR dX7_lay_152 fRX7_40 o10 rfl rfl rfl ?_
            refine wp_iload_n dX7_lay_155 rfl rfl ?_
            refine wn_aald26 dX7_lay_156 (nIx rfl (by omega)) ha rfl ?_
            refine wp_iload_n dX7_lay_157 rfl rfl ?_
            refine wn_putI dX7_lay_158 fRX7_313 (o30 ha) rfl rfl rfl ?_
            refine wp_iload dX7_lay_161 rfl rfl ?_
            refine wp_iret dX7_lay_163 rfl rfl ?_
            obtain ⟨e1, e2⟩ := la_0 (f := f) (so := so) (si := si) (ce := ce) (T := T) (c := c) (y := y) (k := k) ha ⟨h4, h13, fun e => absurd e h21, fun e => absurd e h37⟩ h21 h37
            exact ⟨_, _, rfl, rfl, by rw [e1]; exact (h a ha).1, by rw [e2]; exact h.l0 ha h21 h37, (FQ.rf.pt (Or.inl rfl)).pt (Or.inl rfl)⟩
        · refine wp_iload_n dX7_lay_40 rfl rfl ?_
          refine wn_callS1d dX7_lay_41 rRX7_204 (Nat.le_of_ble_eq_true rfl) rfl (Nat.le_of_ble_eq_true rfl) rfl (c7_isSheet) ?_
          refine wp_if_ne_b (t := 50) dX7_lay_44 rfl rfl (fun h44 => ?_) (fun h44 => ?_)
          · obtain ⟨a, ha, rfl⟩ := slt h4
            refine wp_iload_n dX7_lay_50 rfl rfl ?_
            refine wp_iconst (v := 2) dX7_lay_51 (by decide) rfl ?_
            refine wp_icmp_ne (t := 70) dX7_lay_52 rfl rfl (fun h52 => absurd h37 h52) (fun h52 => ?_)
            obtain ⟨b, hb, rfl⟩ := sht h44
            obtain ⟨hs, n, hn, hsn⟩ := hQ b hb
            refine wp_aload_n dX7_lay_55 rfl rfl ?_
            refine wn_getR dX7_lay_56 fRX7_34 o10 rfl rfl rfl ?_
            refine wp_iload_n dX7_lay_59 rfl rfl ?_
            refine wn_aald25 dX7_lay_60 (nIx rfl (by omega)) hb rfl ?_
            refine wn_callV0d dX7_lay_61 rRX7_207 (rcv_of (o28 hb) rfl) (Nat.le_of_ble_eq_true rfl)  (Nat.le_of_ble_eq_true rfl) rfl (c4_isMissing hb) ?_
            rw [(hS b hb).1]
            refine wp_if_eq_b (t := 70) dX7_lay_64 rfl rfl (fun h64 => ?_) (fun h64 => ?_)
            · have hs0 : ¬ so b < 0 := fun z => hs.elim h64 (fun e => e.elim (fun e => absurd (e ▸ z) (by decide)) (fun e => absurd (e ▸ z) (by decide)))
              refine wp_aload_n dX7_lay_70 rfl rfl ?_
              refine wn_getR dX7_lay_71 fRX7_40 o10 rfl rfl rfl ?_
              refine wp_iload_n dX7_lay_74 rfl rfl ?_
              refine wn_aald26 dX7_lay_75 (nIx rfl (by omega)) ha rfl ?_
              refine wn_getI dX7_lay_76 fRX7_296 (o30 ha) rfl rfl ?_
              refine wp_istore (l' := [_, _, _, _, some _]) dX7_lay_79 rfl rfl ?_
              refine wp_aload_n dX7_lay_81 rfl rfl ?_
              refine wn_getR dX7_lay_82 fRX7_40 o10 rfl rfl rfl ?_
              refine wp_iload_n dX7_lay_85 rfl rfl ?_
              refine wn_aald26 dX7_lay_86 (nIx rfl (by omega)) ha rfl ?_
              refine wp_iload_n dX7_lay_87 rfl rfl ?_
              refine wn_putI dX7_lay_88 fRX7_296 (o30 ha) rfl rfl rfl ?_
              refine wp_iload_n dX7_lay_91 rfl rfl ?_
              refine wp_iconst (v := 1) dX7_lay_92 (by decide) rfl ?_
              refine wp_icmp_ne (t := 120) dX7_lay_93 rfl rfl (fun h93 => ?_) (fun h93 => absurd h93 h21)
              refine wp_iload_n dX7_lay_120 rfl rfl ?_
              refine wp_iconst (v := 2) dX7_lay_121 (by decide) rfl ?_
              refine wp_icmp_ne (t := 146) dX7_lay_122 rfl rfl (fun h122 => absurd h37 h122) (fun h122 => ?_)
              refine wp_aload_n dX7_lay_125 rfl rfl ?_
              refine wn_getR dX7_lay_126 fRX7_40 o10 rfl rfl rfl ?_
              refine wp_iload_n dX7_lay_129 rfl rfl ?_
              refine wn_aald26 dX7_lay_130 (nIx rfl (by omega)) ha rfl ?_
              refine wn_getR dX7_lay_131 fRX7_306 (o30 ha) rfl rfl rfl ?_
              refine wp_aload_n dX7_lay_134 rfl rfl ?_
              refine wn_getR dX7_lay_135 fRX7_34 o10 rfl rfl rfl ?_
              refine wp_iload_n dX7_lay_138 rfl rfl ?_
              refine wn_aald25 dX7_lay_139 (nIx rfl (by omega)) hb rfl ?_
              refine wn_callV1n dX7_lay_140 rRX7_310 (rcv_of (o32 ha) rfl) (Nat.le_of_ble_eq_true rfl) rfl (Nat.le_of_ble_eq_true rfl) rfl (c4_takeS ha hb) (fun s140 hq140 => ?_)
              obtain ⟨q140, hF140⟩ := hq140
              refine wp_goto (t := 161) dX7_lay_143 rfl ?_
              refine wp_iload dX7_lay_161 rfl rfl ?_
              refine wp_iret dX7_lay_163 rfl rfl ?_
              subst h37
              obtain ⟨e1, e2⟩ := la_2 (f := f) (so := so) (si := si) (ce := ce) (T := T) (c := c) ha hb ⟨h4, h13, fun e => absurd e (by decide), fun _ => h44⟩ hs0
              obtain ⟨w1, w2, w3⟩ := hS b hb
              have E2 : s140.1 (32, a, 0) 2 = si b := q140.1.trans ((congrFun (sI_nt (by decide)) 2).trans w2)
              have E3 : ∀ k, k < 24 → s140.1 (33, a, 0) k = ce (24 * b + k) := fun k hk => (q140.2 k hk).trans ((congrFun (sI_nt (by decide)) k).trans (w3 k hk))
              exact ⟨_, _, rfl, rfl, by rw [e1]; exact (h a ha).1, by rw [e2]; exact h.l2 ha E2 E3 hF140, (FQ.rf.pt (Or.inl rfl)).tr (hF140.wd (fun r z => z.elim (fun z => Or.inr (Or.inr (Or.inl (by rw [z])))) (fun z => Or.inr (Or.inr (Or.inr (by rw [z]))))))⟩
            · refine wp_ldc dX7_lay_67 kRX7_210 rfl ?_
              refine wp_iret dX7_lay_69 rfl rfl ?_
              subst h37
              obtain ⟨e1, e2⟩ := la_n (f := f) (so := so) (si := si) (ce := ce) (T := T) (c := c) (x := nI a) (k := nI b) ⟨h4, h13, fun e => absurd e (by decide), fun _ => h44⟩ (by rw [nI_clamp (by omega), h64]; decide)
              exact ⟨_, _, rfl, rfl, e1.symm, by rw [e2]; exact h, FQ.rf⟩
          · refine wp_ldc dX7_lay_47 kRX7_68 rfl ?_
            refine wp_iret dX7_lay_49 rfl rfl ?_
            obtain ⟨e1, e2⟩ := la_no (f := f) (so := so) (si := si) (ce := ce) (T := T) (c := c) (x := x) (y := y) (k := k) (fun z => h44 (z.2.2.2 h37))
            exact ⟨_, _, rfl, rfl, e1.symm, by rw [e2]; exact h, FQ.rf⟩
      · refine wp_aload_n dX7_lay_24 rfl rfl ?_
        refine wn_getR dX7_lay_25 fRX7_10 o10 rfl rfl rfl ?_
        refine wp_iload_n dX7_lay_28 rfl rfl ?_
        refine wn_callV1d dX7_lay_29 rRX7_77 (rcv_of (o11 (by decide)) rfl) (Nat.le_of_ble_eq_true rfl) rfl (Nat.le_of_ble_eq_true rfl) rfl (c3_hasLog (by decide)) ?_
        refine wp_if_eq_b (t := 47) dX7_lay_32 rfl rfl (fun h32 => ?_) (fun h32 => ?_)
        · refine wp_ldc dX7_lay_47 kRX7_68 rfl ?_
          refine wp_iret dX7_lay_49 rfl rfl ?_
          obtain ⟨e1, e2⟩ := la_no (f := f) (so := so) (si := si) (ce := ce) (T := T) (c := c) (x := x) (y := y) (k := k) (fun z => h32 (by have := z.2.2.1 h21; obtain ⟨g, hg, rfl⟩ := log_nat hc this; exact ⟨by rw [hlc]; exact this, (nI_ltI (b := 12) (by omega) (by omega)).mpr (by omega)⟩))
          exact ⟨_, _, rfl, rfl, e1.symm, by rw [e2]; exact h, FQ.rf⟩
        · obtain ⟨g, hg, rfl⟩ := log_nat hc (by rw [← hlc]; exact h32.1)
          have hg12 : g < 12 := by omega
          refine wp_iload_n dX7_lay_35 rfl rfl ?_
          refine wp_iconst (v := 2) dX7_lay_36 (by decide) rfl ?_
          refine wp_icmp_ne (t := 50) dX7_lay_37 rfl rfl (fun h37 => ?_) (fun h37 => absurd (h21.symm.trans h37) (by decide))
          obtain ⟨a, ha, rfl⟩ := slt h4
          refine wp_iload_n dX7_lay_50 rfl rfl ?_
          refine wp_iconst (v := 2) dX7_lay_51 (by decide) rfl ?_
          refine wp_icmp_ne (t := 70) dX7_lay_52 rfl rfl (fun h52 => ?_) (fun h52 => absurd h52 h37)
          refine wp_aload_n dX7_lay_70 rfl rfl ?_
          refine wn_getR dX7_lay_71 fRX7_40 o10 rfl rfl rfl ?_
          refine wp_iload_n dX7_lay_74 rfl rfl ?_
          refine wn_aald26 dX7_lay_75 (nIx rfl (by omega)) ha rfl ?_
          refine wn_getI dX7_lay_76 fRX7_296 (o30 ha) rfl rfl ?_
          refine wp_istore (l' := [_, _, _, _, some _]) dX7_lay_79 rfl rfl ?_
          refine wp_aload_n dX7_lay_81 rfl rfl ?_
          refine wn_getR dX7_lay_82 fRX7_40 o10 rfl rfl rfl ?_
          refine wp_iload_n dX7_lay_85 rfl rfl ?_
          refine wn_aald26 dX7_lay_86 (nIx rfl (by omega)) ha rfl ?_
          refine wp_iload_n dX7_lay_87 rfl rfl ?_
          refine wn_putI dX7_lay_88 fRX7_296 (o30 ha) rfl rfl rfl ?_
          refine wp_iload_n dX7_lay_91 rfl rfl ?_
          refine wp_iconst (v := 1) dX7_lay_92 (by decide) rfl ?_
          refine wp_icmp_ne (t := 120) dX7_lay_93 rfl rfl (fun h93 => absurd h21 h93) (fun h93 => ?_)
          refine wp_aload_n dX7_lay_96 rfl rfl ?_
          refine wn_getR dX7_lay_97 fRX7_40 o10 rfl rfl rfl ?_
          refine wp_iload_n dX7_lay_100 rfl rfl ?_
          refine wn_aald26 dX7_lay_101 (nIx rfl (by omega)) ha rfl ?_
          refine wn_getR dX7_lay_102 fRX7_299 (o30 ha) rfl rfl rfl ?_
          refine wp_aload_n dX7_lay_105 rfl rfl ?_
          refine wn_getR dX7_lay_106 fRX7_10 o10 rfl rfl rfl ?_
          refine wn_getR dX7_lay_109 fRX7_80 (o11 (by decide)) rfl rfl rfl ?_
          refine wp_iload_n dX7_lay_112 rfl rfl ?_
          refine wn_aald13 dX7_lay_113 (by decide) (nIx rfl (by omega)) hg12 rfl ?_
          refine wn_callV1n dX7_lay_114 rRX7_303 (rcv_of (o31 ha) rfl) (Nat.le_of_ble_eq_true rfl) rfl (Nat.le_of_ble_eq_true rfl) rfl (c1_takeS ha hg12) (fun s114 hq114 => ?_)
          obtain ⟨q114, hF114⟩ := hq114
          refine wp_goto (t := 161) dX7_lay_117 rfl ?_
          refine wp_iload dX7_lay_161 rfl rfl ?_
          refine wp_iret dX7_lay_163 rfl rfl ?_
          subst h21
          obtain ⟨e1, e2⟩ := la_1 (f := f) (so := so) (si := si) (ce := ce) (T := T) (c := c) ha hg12 ⟨h4, h13, fun _ => nat_log hc hg, fun e => absurd e (by decide)⟩
          obtain ⟨kk, hk5, hkk⟩ := hD g hg
          have E0 : s114.1 (31, a, 0) 0 = f (45 + 5 * g + 0) := (q114 0 (by decide)).trans ((congrFun (sI_nt (by decide)) 0).trans (hV.1.lg (by omega) hg12 (by decide)))
          have E2 : s114.1 (31, a, 0) 2 = f (45 + 5 * g + 2) := (q114 2 (by decide)).trans ((congrFun (sI_nt (by decide)) 2).trans (hV.1.lg (by omega) hg12 (by decide)))
          exact ⟨_, _, rfl, rfl, by rw [e1]; exact (h a ha).1, by rw [e2]; exact h.l1 ha hk5 hkk E0 (by rw [E2]) hF114, (FQ.rf.pt (Or.inl rfl)).tr (hF114.wd (fun r z => Or.inr (Or.inl (by rw [z]))))⟩
    · refine wp_ldc dX7_lay_16 kRX7_68 rfl ?_
      refine wp_iret dX7_lay_18 rfl rfl ?_
      obtain ⟨e1, e2⟩ := la_no (f := f) (so := so) (si := si) (ce := ce) (T := T) (c := c) (x := x) (y := y) (k := k) (fun z => h13 z.2.1)
      exact ⟨_, _, rfl, rfl, e1.symm, by rw [e2]; exact h, FQ.rf⟩
end
