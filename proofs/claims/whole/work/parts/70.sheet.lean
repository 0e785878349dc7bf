/-! THE PURE PART, 51: sheet, mark -/
section
variable {d i j a : Nat}
/-- the class's rows stand for the reference's sheets: sorts, sizes, cells -/
def SH (s : Sn) (so si ce : Fl) : Prop := ∀ a, a < 4 → s.1 (28, a, 0) 1 = so a ∧ s.1 (28, a, 0) 2 = si a ∧ ∀ k, k < 24 → s.1 (29, a, 0) k = ce (24 * a + k)
/-- sorts and sizes of sheets are such -/
def SQ (so si : Fl) : Prop := ∀ a, a < 4 → (so a = -1 ∨ so a = 0 ∨ so a = 1) ∧ ∃ n, n ≤ 24 ∧ si a = nI n
def XS : Rf → Prop := fun r => r.1 = 28 ∨ r.1 = 29
theorem sI_ni {s : Sn} {t a b k : Nat} {v : Int32} (h : a ≠ b) : (sI s (t, b, 0) k v).1 (t, a, 0) = s.1 (t, a, 0) := sI_nr (fun e => h (congrArg (fun r : Rf => r.2.1) e))
theorem sI_nt {s : Sn} {t u a b c e k : Nat} {v : Int32} (h : t ≠ u) : (sI s (u, b, e) k v).1 (t, a, c) = s.1 (t, a, c) := sI_nr (fun z => h (congrArg Prod.fst z))
theorem sht {x : Int32} (h : 0 ≤ x ∧ x ≤ 3) : ∃ a, a < 4 ∧ x = nI a := by
  obtain ⟨k, hk, rfl⟩ := nat60 (b := 3) (by decide) h
  exact ⟨k, by omega, rfl⟩
theorem slt {x : Int32} (h : 0 ≤ x ∧ x ≤ 4) : ∃ a, a < 5 ∧ x = nI a := by
  obtain ⟨k, hk, rfl⟩ := nat60 (b := 4) (by decide) h
  exact ⟨k, by omega, rfl⟩
def clr (ce : Fl) (a k : Nat) : Fl := fun q => if 24 * a ≤ q ∧ q < 24 * a + k then 0 else ce q
theorem clr_0 {ce : Fl} : clr ce a 0 = ce := by
  funext q
  exact if_neg (by omega)
theorem clr_s {ce : Fl} {k : Nat} : upd (clr ce a k) (24 * a + k) 0 = clr ce a (k + 1) := by
  funext q
  by_cases e : q = 24 * a + k
  · rw [e, upd_eq]; exact (if_pos (by omega)).symm
  · rw [upd_ne e]
    show (if 24 * a ≤ q ∧ q < 24 * a + k then 0 else ce q) = if 24 * a ≤ q ∧ q < 24 * a + (k + 1) then 0 else ce q
    by_cases e2 : 24 * a ≤ q ∧ q < 24 * a + k
    · rw [if_pos e2, if_pos (by omega)]
    · rw [if_neg e2, if_neg (by omega)]
abbrev shO (x y n : Int32) : Prop := (0 ≤ x ∧ x ≤ 3) ∧ (-1 ≤ y ∧ y ≤ 1) ∧ (y < 0 ∨ n ≤ 24)
abbrev shP (y n : Int32) : Prop := y < 0 ∨ 0 ≤ n
def shV (y n : Int32) : Int32 := if y < 0 then 0 else n
def shA (x y n : Int32) : Int32 := if shO x y n then (if shP y n then shV y n else -1000000014) else -1000000001
def shS (so : Fl) (x y n : Int32) : Fl := if shO x y n ∧ shP y n then upd so x.toNatClampNeg y else so
def shI (si : Fl) (x y n : Int32) : Fl := if shO x y n ∧ shP y n then upd si x.toNatClampNeg (shV y n) else si
def shC (ce : Fl) (x y n : Int32) : Fl := if shO x y n ∧ shP y n then clr ce x.toNatClampNeg 24 else ce
theorem sh_no {so si ce : Fl} {x y n : Int32} (h : ¬ shO x y n) : shA x y n = -1000000001 ∧ shS so x y n = so ∧ shI si x y n = si ∧ shC ce x y n = ce := ⟨if_neg h, if_neg (fun z => h z.1), if_neg (fun z => h z.1), if_neg (fun z => h z.1)⟩
theorem sh_sz {so si ce : Fl} {x y n : Int32} (h : shO x y n) (h2 : ¬ shP y n) : shA x y n = -1000000014 ∧ shS so x y n = so ∧ shI si x y n = si ∧ shC ce x y n = ce := by
  refine ⟨?_, if_neg (fun z => h2 z.2), if_neg (fun z => h2 z.2), if_neg (fun z => h2 z.2)⟩
  unfold shA
  rw [if_pos h, if_neg h2]
theorem sh_yes {so si ce : Fl} {y n : Int32} (ha : a < 4) (h : shO (nI a) y n) (h2 : shP y n) : shA (nI a) y n = shV y n ∧ shS so (nI a) y n = upd so a y ∧ shI si (nI a) y n = upd si a (shV y n) ∧ shC ce (nI a) y n = clr ce a 24 := by
  unfold shA shS shI shC
  rw [if_pos h, if_pos h2, if_pos ⟨h, h2⟩, if_pos ⟨h, h2⟩, if_pos ⟨h, h2⟩, nI_clamp (by omega)]
  exact ⟨rfl, rfl, rfl, rfl⟩
theorem ix_24 {k : Nat} : (24 : Int32) * nI a + nI k = nI (24 * a + k) := by
  rw [show (24 : Int32) = nI 24 from rfl, pk_mul, nI_add]
theorem y_m1 {y : Int32} (h : -1 ≤ y ∧ y ≤ 1) : y < 0 ↔ y = -1 := by
  constructor
  · intro h0
    refine Int32.le_antisymm ?_ h.1
    refine Int32.not_lt.mp (fun z => ?_)
    simp only [Int32.lt_iff_toInt_lt] at h0 z
    have e1 : (-1 : Int32).toInt = -1 := by decide
    have e0 : (0 : Int32).toInt = 0 := by decide
    omega
  · intro e
    rw [e]; decide
theorem l8_sheet {s : Sn} {y n v : Int32} {so : Fl} {si : Fl} (ha : a < 4) : ∀ k, k ≤ 24 → ∀ s1 : Sn, s1.1 (41, 12, 0) = so → s1.1 (41, 13, 0) = upd si a v → s1.1 (41, 14, 0) = clr (s.1 (41, 14, 0)) a k → Fr [(41, 12, 0), (41, 13, 0), (41, 14, 0)] s s1 → Wp (d + 2) MX8_sheet 65 [some (vR 40 0 0), some (vI (nI a)), some (vI y), some (vI n), some (vI (nI k))] [] (hN s1) (Pv fun z t => z = v ∧ t.1 (41, 12, 0) = so ∧ t.1 (41, 13, 0) = upd si a v ∧ t.1 (41, 14, 0) = clr (s.1 (41, 14, 0)) a 24 ∧ Fr [(41, 12, 0), (41, 13, 0), (41, 14, 0)] s t) := by
  refine ind_up (fun k hk ih => ?_)
  intro s1 e12 e13 e14 hF
  refine wp_iload dX8_sheet_65 rfl rfl ?_
  refine wp_bipush (v := 24) dX8_sheet_67 (by decide) rfl ?_
  refine wp_icmp_ge (t := 91) dX8_sheet_69 rfl rfl (fun h69 => ?_) (fun h69 => ?_)
  · have hk2 : k = 24 := by have := (nI_leI (a := 24) (by omega) (by omega)).mp h69; omega
    subst hk2
    refine wp_aload_n dX8_sheet_91 rfl rfl ?_
    refine wn_getR dX8_sheet_92 fRX8_51 o40 rfl rfl rfl ?_
    refine wp_iload_n dX8_sheet_95 rfl rfl ?_
    refine wn_iald dX8_sheet_96 (o41 13 rfl) rfl (nIx rfl (by omega)) (show a < 4 from ha) rfl ?_
    refine wp_iret dX8_sheet_97 rfl rfl ?_
    exact ⟨_, _, rfl, rfl, by rw [e13, upd_eq], e12, e13, e14, hF⟩
  · have hl : k < 24 := by have := mt (nI_leI (a := 24) (by omega) (by omega)).mpr h69; omega
    refine wp_aload_n dX8_sheet_72 rfl rfl ?_
    refine wn_getR dX8_sheet_73 fRX8_54 o40 rfl rfl rfl ?_
    refine wp_bipush (v := 24) dX8_sheet_76 (by decide) rfl ?_
    refine wp_iload_n dX8_sheet_78 rfl rfl ?_
    refine wp_imul dX8_sheet_79 rfl ?_
    refine wp_iload dX8_sheet_80 rfl rfl ?_
    refine wp_iadd dX8_sheet_82 rfl ?_
    refine wp_iconst (v := 0) dX8_sheet_83 (by decide) rfl ?_
    refine wn_iast dX8_sheet_84 (o41 14 rfl) rfl (nIx ix_24 (by omega)) (by show _ < 96; omega) rfl ?_
    refine wp_iinc (l' := [_, _, _, _, some _]) (v := 1) dX8_sheet_85 rfl (by decide) rfl rfl ?_
    refine wp_goto (t := 65) dX8_sheet_88 rfl ?_
    rw [nI_1]
    exact ih hl _ e12 e13 (by rw [sI_row, e14, clr_s]) (hF.pt (by decide))
theorem c8_sheet {s : Sn} {x y n : Int32} : Ca (d + 2) MX8_sheet [vR 40 0 0, vI x, vI y, vI n] (hN s) (Pv fun z t => z = shA x y n ∧ t.1 (41, 12, 0) = shS (s.1 (41, 12, 0)) x y n ∧ t.1 (41, 13, 0) = shI (s.1 (41, 13, 0)) x y n ∧ t.1 (41, 14, 0) = shC (s.1 (41, 14, 0)) x y n ∧ Fr [(41, 12, 0), (41, 13, 0), (41, 14, 0)] s t) := by
  change Wp _ _ 0 [some _, some _, some _, some _, none] [] _ _
  refine wp_iload_n dX8_sheet_0 rfl rfl ?_
  refine wn_callS1d dX8_sheet_1 rRX8_168 (Nat.le_of_ble_eq_true rfl) rfl (Nat.le_of_ble_eq_true rfl) rfl (c8_isSheet) ?_
  refine wp_if_eq_b (t := 26) dX8_sheet_4 rfl rfl (fun h4 => ?_) (fun h4 => ?_)
  · refine wp_ldc dX8_sheet_26 kRX8_83 rfl ?_
    refine wp_iret dX8_sheet_28 rfl rfl ?_
    obtain ⟨e1, e2, e3, e4⟩ := sh_no (so := (s.1 (41, 12, 0))) (si := (s.1 (41, 13, 0))) (ce := (s.1 (41, 14, 0))) (x := x) (y := y) (n := n) (fun z => h4 z.1)
    exact ⟨_, _, rfl, rfl, e1.symm, e2.symm, e3.symm, e4.symm, Fr.rf⟩
  · refine wp_iload_n dX8_sheet_7 rfl rfl ?_
    refine wp_iconst (v := (-1)) dX8_sheet_8 (by decide) rfl ?_
    refine wp_iconst (v := 1) dX8_sheet_9 (by decide) rfl ?_
    refine wn_callS3d dX8_sheet_10 rRX8_75 (Nat.le_of_ble_eq_true rfl) rfl rfl rfl (Nat.le_of_ble_eq_true rfl) rfl (c8_in) ?_
    refine wp_if_eq_b (t := 26) dX8_sheet_13 rfl rfl (fun h13 => ?_) (fun h13 => ?_)
    · refine wp_ldc dX8_sheet_26 kRX8_83 rfl ?_
      refine wp_iret dX8_sheet_28 rfl rfl ?_
      obtain ⟨e1, e2, e3, e4⟩ := sh_no (so := (s.1 (41, 12, 0))) (si := (s.1 (41, 13, 0))) (ce := (s.1 (41, 14, 0))) (x := x) (y := y) (n := n) (fun z => h13 z.2.1)
      exact ⟨_, _, rfl, rfl, e1.symm, e2.symm, e3.symm, e4.symm, Fr.rf⟩
    · refine wp_iload_n dX8_sheet_16 rfl rfl ?_
      refine wp_if_lt (t := 29) dX8_sheet_17 rfl rfl (fun h17 => ?_) (fun h17 => ?_)
      · refine wp_iload_n dX8_sheet_29 rfl rfl ?_
        refine wp_if_lt (t := 40) dX8_sheet_30 rfl rfl (fun h30 => ?_) (fun h30 => ?_)
        · obtain ⟨a, ha, rfl⟩ := sht h4
          refine wp_aload_n dX8_sheet_40 rfl rfl ?_
          refine wn_getR dX8_sheet_41 fRX8_48 o40 rfl rfl rfl ?_
          refine wp_iload_n dX8_sheet_44 rfl rfl ?_
          refine wp_iload_n dX8_sheet_45 rfl rfl ?_
          refine wn_iast dX8_sheet_46 (o41 12 rfl) rfl (nIx rfl (by omega)) (show a < 4 from ha) rfl ?_
          refine wp_aload_n dX8_sheet_47 rfl rfl ?_
          refine wn_getR dX8_sheet_48 fRX8_51 o40 rfl rfl rfl ?_
          refine wp_iload_n dX8_sheet_51 rfl rfl ?_
          refine wp_iload_n dX8_sheet_52 rfl rfl ?_
          refine wp_if_ge (t := 60) dX8_sheet_53 rfl rfl (fun h53 => ?_) (fun h53 => ?_)
          · refine wp_iload_n dX8_sheet_60 rfl rfl ?_
            refine wn_iast dX8_sheet_61 (o41 13 rfl) rfl (nIx rfl (by omega)) (show a < 4 from ha) rfl ?_
            refine wp_iconst (v := 0) dX8_sheet_62 (by decide) rfl ?_
            refine wp_istore (l' := [_, _, _, _, some _]) dX8_sheet_63 rfl rfl ?_
            obtain ⟨e1, e2, e3, e4⟩ := sh_yes (so := (s.1 (41, 12, 0))) (si := (s.1 (41, 13, 0))) (ce := (s.1 (41, 14, 0))) (y := y) (n := n) ha ⟨h4, h13, Or.inl h17⟩ (Or.inl h30)
            rw [(show shV y n = n from if_neg (Int32.not_lt.mpr h53))] at e1 e3
            refine (l8_sheet (d := d) (s := s) (v := n) (so := upd (s.1 (41, 12, 0)) a y) (si := (s.1 (41, 13, 0))) ha 0 (Nat.zero_le _) _ ?_ ?_ ?_ ((Fr.rf.pt (by decide)).pt (by decide))).conseq ?_
            · show (sI (sI s (41, 12, 0) a y) (41, 13, 0) a n).1 (41, 12, 0) = _
              rw [sI_nr (by decide), sI_row]
            · show (sI (sI s (41, 12, 0) a y) (41, 13, 0) a n).1 (41, 13, 0) = _
              rw [sI_row, sI_nr (by decide)]
            · show (sI (sI s (41, 12, 0) a y) (41, 13, 0) a n).1 (41, 14, 0) = _
              rw [sI_nr (by decide), sI_nr (by decide), clr_0]
            · rintro z σ ⟨z, t, rfl, rfl, q1, q2, q3, q4, q5⟩
              exact ⟨z, t, rfl, rfl, q1.trans e1.symm, q2.trans e2.symm, q3.trans e3.symm, q4.trans e4.symm, q5⟩
          · refine wp_iconst (v := 0) dX8_sheet_56 (by decide) rfl ?_
            refine wp_goto (t := 61) dX8_sheet_57 rfl ?_
            refine wn_iast dX8_sheet_61 (o41 13 rfl) rfl (nIx rfl (by omega)) (show a < 4 from ha) rfl ?_
            refine wp_iconst (v := 0) dX8_sheet_62 (by decide) rfl ?_
            refine wp_istore (l' := [_, _, _, _, some _]) dX8_sheet_63 rfl rfl ?_
            obtain ⟨e1, e2, e3, e4⟩ := sh_yes (so := (s.1 (41, 12, 0))) (si := (s.1 (41, 13, 0))) (ce := (s.1 (41, 14, 0))) (y := y) (n := n) ha ⟨h4, h13, Or.inl h17⟩ (Or.inl h30)
            rw [(show shV y n = 0 from if_pos (Int32.not_le.mp h53))] at e1 e3
            refine (l8_sheet (d := d) (s := s) (v := 0) (so := upd (s.1 (41, 12, 0)) a y) (si := (s.1 (41, 13, 0))) ha 0 (Nat.zero_le _) _ ?_ ?_ ?_ ((Fr.rf.pt (by decide)).pt (by decide))).conseq ?_
            · show (sI (sI s (41, 12, 0) a y) (41, 13, 0) a 0).1 (41, 12, 0) = _
              rw [sI_nr (by decide), sI_row]
            · show (sI (sI s (41, 12, 0) a y) (41, 13, 0) a 0).1 (41, 13, 0) = _
              rw [sI_row, sI_nr (by decide)]
            · show (sI (sI s (41, 12, 0) a y) (41, 13, 0) a 0).1 (41, 14, 0) = _
              rw [sI_nr (by decide), sI_nr (by decide), clr_0]
            · rintro z σ ⟨z, t, rfl, rfl, q1, q2, q3, q4, q5⟩
              exact ⟨z, t, rfl, rfl, q1.trans e1.symm, q2.trans e2.symm, q3.trans e3.symm, q4.trans e4.symm, q5⟩
        · refine wp_iload_n dX8_sheet_33 rfl rfl ?_
          refine wp_if_ge (t := 40) dX8_sheet_34 rfl rfl (fun h34 => ?_) (fun h34 => ?_)
          · obtain ⟨a, ha, rfl⟩ := sht h4
            refine wp_aload_n dX8_sheet_40 rfl rfl ?_
            refine wn_getR dX8_sheet_41 fRX8_48 o40 rfl rfl rfl ?_
            refine wp_iload_n dX8_sheet_44 rfl rfl ?_
            refine wp_iload_n dX8_sheet_45 rfl rfl ?_
            refine wn_iast dX8_sheet_46 (o41 12 rfl) rfl (nIx rfl (by omega)) (show a < 4 from ha) rfl ?_
            refine wp_aload_n dX8_sheet_47 rfl rfl ?_
            refine wn_getR dX8_sheet_48 fRX8_51 o40 rfl rfl rfl ?_
            refine wp_iload_n dX8_sheet_51 rfl rfl ?_
            refine wp_iload_n dX8_sheet_52 rfl rfl ?_
            refine wp_if_ge (t := 60) dX8_sheet_53 rfl rfl (fun h53 => ?_) (fun h53 => ?_)
            · refine wp_iload_n dX8_sheet_60 rfl rfl ?_
              refine wn_iast dX8_sheet_61 (o41 13 rfl) rfl (nIx rfl (by omega)) (show a < 4 from ha) rfl ?_
              refine wp_iconst (v := 0) dX8_sheet_62 (by decide) rfl ?_
              refine wp_istore (l' := [_, _, _, _, some _]) dX8_sheet_63 rfl rfl ?_
              obtain ⟨e1, e2, e3, e4⟩ := sh_yes (so := (s.1 (41, 12, 0))) (si := (s.1 (41, 13, 0))) (ce := (s.1 (41, 14, 0))) (y := y) (n := n) ha ⟨h4, h13, Or.inl h17⟩ (Or.inr h34)
              rw [(show shV y n = n from if_neg (Int32.not_lt.mpr h53))] at e1 e3
              refine (l8_sheet (d := d) (s := s) (v := n) (so := upd (s.1 (41, 12, 0)) a y) (si := (s.1 (41, 13, 0))) ha 0 (Nat.zero_le _) _ ?_ ?_ ?_ ((Fr.rf.pt (by decide)).pt (by decide))).conseq ?_
              · show (sI (sI s (41, 12, 0) a y) (41, 13, 0) a n).1 (41, 12, 0) = _
                rw [sI_nr (by decide), sI_row]
              · show (sI (sI s (41, 12, 0) a y) (41, 13, 0) a n).1 (41, 13, 0) = _
                rw [sI_row, sI_nr (by decide)]
              · show (sI (sI s (41, 12, 0) a y) (41, 13, 0) a n).1 (41, 14, 0) = _
                rw [sI_nr (by decide), sI_nr (by decide), clr_0]
              · rintro z σ ⟨z, t, rfl, rfl, q1, q2, q3, q4, q5⟩
                exact ⟨z, t, rfl, rfl, q1.trans e1.symm, q2.trans e2.symm, q3.trans e3.symm, q4.trans e4.symm, q5⟩
            · refine wp_iconst (v := 0) dX8_sheet_56 (by decide) rfl ?_
              refine wp_goto (t := 61) dX8_sheet_57 rfl ?_
              refine wn_iast dX8_sheet_61 (o41 13 rfl) rfl (nIx rfl (by omega)) (show a < 4 from ha) rfl ?_
              refine wp_iconst (v := 0) dX8_sheet_62 (by decide) rfl ?_
              refine wp_istore (l' := [_, _, _, _, some _]) dX8_sheet_63 rfl rfl ?_
              obtain ⟨e1, e2, e3, e4⟩ := sh_yes (so := (s.1 (41, 12, 0))) (si := (s.1 (41, 13, 0))) (ce := (s.1 (41, 14, 0))) (y := y) (n := n) ha ⟨h4, h13, Or.inl h17⟩ (Or.inr h34)
              rw [(show shV y n = 0 from if_pos (Int32.not_le.mp h53))] at e1 e3
              refine (l8_sheet (d := d) (s := s) (v := 0) (so := upd (s.1 (41, 12, 0)) a y) (si := (s.1 (41, 13, 0))) ha 0 (Nat.zero_le _) _ ?_ ?_ ?_ ((Fr.rf.pt (by decide)).pt (by decide))).conseq ?_
              · show (sI (sI s (41, 12, 0) a y) (41, 13, 0) a 0).1 (41, 12, 0) = _
                rw [sI_nr (by decide), sI_row]
              · show (sI (sI s (41, 12, 0) a y) (41, 13, 0) a 0).1 (41, 13, 0) = _
                rw [sI_row, sI_nr (by decide)]
              · show (sI (sI s (41, 12, 0) a y) (41, 13, 0) a 0).1 (41, 14, 0) = _
                rw [sI_nr (by decide), sI_nr (by decide), clr_0]
              · rintro z σ ⟨z, t, rfl, rfl, q1, q2, q3, q4, q5⟩
                exact ⟨z, t, rfl, rfl, q1.trans e1.symm, q2.trans e2.symm, q3.trans e3.symm, q4.trans e4.symm, q5⟩
          · refine wp_ldc dX8_sheet_37 kRX8_244 rfl ?_
            refine wp_iret dX8_sheet_39 rfl rfl ?_
            obtain ⟨e1, e2, e3, e4⟩ := sh_sz (so := (s.1 (41, 12, 0))) (si := (s.1 (41, 13, 0))) (ce := (s.1 (41, 14, 0))) (x := x) (y := y) (n := n) ⟨h4, h13, Or.inl h17⟩ (fun z => z.elim h30 h34)
            exact ⟨_, _, rfl, rfl, e1.symm, e2.symm, e3.symm, e4.symm, Fr.rf⟩
      · refine wp_iload_n dX8_sheet_20 rfl rfl ?_
        refine wp_bipush (v := 24) dX8_sheet_21 (by decide) rfl ?_
        refine wp_icmp_le (t := 29) dX8_sheet_23 rfl rfl (fun h23 => ?_) (fun h23 => ?_)
        · refine wp_iload_n dX8_sheet_29 rfl rfl ?_
          refine wp_if_lt (t := 40) dX8_sheet_30 rfl rfl (fun h30 => ?_) (fun h30 => ?_)
          · obtain ⟨a, ha, rfl⟩ := sht h4
            refine wp_aload_n dX8_sheet_40 rfl rfl ?_
            refine wn_getR dX8_sheet_41 fRX8_48 o40 rfl rfl rfl ?_
            refine wp_iload_n dX8_sheet_44 rfl rfl ?_
            refine wp_iload_n dX8_sheet_45 rfl rfl ?_
            refine wn_iast dX8_sheet_46 (o41 12 rfl) rfl (nIx rfl (by omega)) (show a < 4 from ha) rfl ?_
            refine wp_aload_n dX8_sheet_47 rfl rfl ?_
            refine wn_getR dX8_sheet_48 fRX8_51 o40 rfl rfl rfl ?_
            refine wp_iload_n dX8_sheet_51 rfl rfl ?_
            refine wp_iload_n dX8_sheet_52 rfl rfl ?_
            refine wp_if_ge (t := 60) dX8_sheet_53 rfl rfl (fun h53 => ?_) (fun h53 => ?_)
            · refine wp_iload_n dX8_sheet_60 rfl rfl ?_
              refine wn_iast dX8_sheet_61 (o41 13 rfl) rfl (nIx rfl (by omega)) (show a < 4 from ha) rfl ?_
              refine wp_iconst (v := 0) dX8_sheet_62 (by decide) rfl ?_
              refine wp_istore (l' := [_, _, _, _, some _]) dX8_sheet_63 rfl rfl ?_
              obtain ⟨e1, e2, e3, e4⟩ := sh_yes (so := (s.1 (41, 12, 0))) (si := (s.1 (41, 13, 0))) (ce := (s.1 (41, 14, 0))) (y := y) (n := n) ha ⟨h4, h13, Or.inr h23⟩ (Or.inl h30)
              rw [(show shV y n = n from if_neg (Int32.not_lt.mpr h53))] at e1 e3
              refine (l8_sheet (d := d) (s := s) (v := n) (so := upd (s.1 (41, 12, 0)) a y) (si := (s.1 (41, 13, 0))) ha 0 (Nat.zero_le _) _ ?_ ?_ ?_ ((Fr.rf.pt (by decide)).pt (by decide))).conseq ?_
              · show (sI (sI s (41, 12, 0) a y) (41, 13, 0) a n).1 (41, 12, 0) = _
                rw [sI_nr (by decide), sI_row]
              · show (sI (sI s (41, 12, 0) a y) (41, 13, 0) a n).1 (41, 13, 0) = _
                rw [sI_row, sI_nr (by decide)]
              · show (sI (sI s (41, 12, 0) a y) (41, 13, 0) a n).1 (41, 14, 0) = _
                rw [sI_nr (by decide), sI_nr (by decide), clr_0]
              · rintro z σ ⟨z, t, rfl, rfl, q1, q2, q3, q4, q5⟩
                exact ⟨z, t, rfl, rfl, q1.trans e1.symm, q2.trans e2.symm, q3.trans e3.symm, q4.trans e4.symm, q5⟩
            · refine wp_iconst (v := 0) dX8_sheet_56 (by decide) rfl ?_
              refine wp_goto (t := 61) dX8_sheet_57 rfl ?_
              refine wn_iast dX8_sheet_61 (o41 13 rfl) rfl (nIx rfl (by omega)) (show a < 4 from ha) rfl ?_
              refine wp_iconst (v := 0) dX8_sheet_62 (by decide) rfl ?_
              refine wp_istore (l' := [_, _, _, _, some _]) dX8_sheet_63 rfl rfl ?_
              obtain ⟨e1, e2, e3, e4⟩ := sh_yes (so := (s.1 (41, 12, 0))) (si := (s.1 (41, 13, 0))) (ce := (s.1 (41, 14, 0))) (y := y) (n := n) ha ⟨h4, h13, Or.inr h23⟩ (Or.inl h30)
              rw [(show shV y n = 0 from if_pos (Int32.not_le.mp h53))] at e1 e3
              refine (l8_sheet (d := d) (s := s) (v := 0) (so := upd (s.1 (41, 12, 0)) a y) (si := (s.1 (41, 13, 0))) ha 0 (Nat.zero_le _) _ ?_ ?_ ?_ ((Fr.rf.pt (by decide)).pt (by decide))).conseq ?_
              · show (sI (sI s (41, 12, 0) a y) (41, 13, 0) a 0).1 (41, 12, 0) = _
                rw [sI_nr (by decide), sI_row]
              · show (sI (sI s (41, 12, 0) a y) (41, 13, 0) a 0).1 (41, 13, 0) = _
                rw [sI_row, sI_nr (by decide)]
              · show (sI (sI s (41, 12, 0) a y) (41, 13, 0) a 0).1 (41, 14, 0) = _
                rw [sI_nr (by decide), sI_nr (by decide), clr_0]
              · rintro z σ ⟨z, t, rfl, rfl, q1, q2, q3, q4, q5⟩
                exact ⟨z, t, rfl, rfl, q1.trans e1.symm, q2.trans e2.symm, q3.trans e3.symm, q4.trans e4.symm, q5⟩
          · refine wp_iload_n dX8_sheet_33 rfl rfl ?_
            refine wp_if_ge (t := 40) dX8_sheet_34 rfl rfl (fun h34 => ?_) (fun h34 => ?_)
            · obtain ⟨a, ha, rfl⟩ := sht h4
              refine wp_aload_n dX8_sheet_40 rfl rfl ?_
              refine wn_getR dX8_sheet_41 fRX8_48 o40 rfl rfl rfl ?_
              refine wp_iload_n dX8_sheet_44 rfl rfl ?_
              refine wp_iload_n dX8_sheet_45 rfl rfl ?_
              refine wn_iast dX8_sheet_46 (o41 12 rfl) rfl (nIx rfl (by omega)) (show a < 4 from ha) rfl ?_
              refine wp_aload_n dX8_sheet_47 rfl rfl ?_
              refine wn_getR dX8_sheet_48 fRX8_51 o40 rfl rfl rfl ?_
              refine wp_iload_n dX8_sheet_51 rfl rfl ?_
              refine wp_iload_n dX8_sheet_52 rfl rfl ?_
              refine wp_if_ge (t := 60) dX8_sheet_53 rfl rfl (fun h53 => ?_) (fun h53 => ?_)
              · refine wp_iload_n dX8_sheet_60 rfl rfl ?_
                refine wn_iast dX8_sheet_61 (o41 13 rfl) rfl (nIx rfl (by omega)) (show a < 4 from ha) rfl ?_
                refine wp_iconst (v := 0) dX8_sheet_62 (by decide) rfl ?_
                refine wp_istore (l' := [_, _, _, _, some _]) dX8_sheet_63 rfl rfl ?_
                obtain ⟨e1, e2, e3, e4⟩ := sh_yes (so := (s.1 (41, 12, 0))) (si := (s.1 (41, 13, 0))) (ce := (s.1 (41, 14, 0))) (y := y) (n := n) ha ⟨h4, h13, Or.inr h23⟩ (Or.inr h34)
                rw [(show shV y n = n from if_neg (Int32.not_lt.mpr h53))] at e1 e3
                refine (l8_sheet (d := d) (s := s) (v := n) (so := upd (s.1 (41, 12, 0)) a y) (si := (s.1 (41, 13, 0))) ha 0 (Nat.zero_le _) _ ?_ ?_ ?_ ((Fr.rf.pt (by decide)).pt (by decide))).conseq ?_
                · show (sI (sI s (41, 12, 0) a y) (41, 13, 0) a n).1 (41, 12, 0) = _
                  rw [sI_nr (by decide), sI_row]
                · show (sI (sI s (41, 12, 0) a y) (41, 13, 0) a n).1 (41, 13, 0) = _
                  rw [sI_row, sI_nr (by decide)]
                · show (sI (sI s (41, 12, 0) a y) (41, 13, 0) a n).1 (41, 14, 0) = _
                  rw [sI_nr (by decide), sI_nr (by decide), clr_0]
                · rintro z σ ⟨z, t, rfl, rfl, q1, q2, q3, q4, q5⟩
                  exact ⟨z, t, rfl, rfl, q1.trans e1.symm, q2.trans e2.symm, q3.trans e3.symm, q4.trans e4.symm, q5⟩
              · refine wp_iconst (v := 0) dX8_sheet_56 (by decide) rfl ?_
                refine wp_goto (t := 61) dX8_sheet_57 rfl ?_
                refine wn_iast dX8_sheet_61 (o41 13 rfl) rfl (nIx rfl (by omega)) (show a < 4 from ha) rfl ?_
                refine wp_iconst (v := 0) dX8_sheet_62 (by decide) rfl ?_
                refine wp_istore (l' := [_, _, _, _, some _]) dX8_sheet_63 rfl rfl ?_
                obtain ⟨e1, e2, e3, e4⟩ := sh_yes (so := (s.1 (41, 12, 0))) (si := (s.1 (41, 13, 0))) (ce := (s.1 (41, 14, 0))) (y := y) (n := n) ha ⟨h4, h13, Or.inr h23⟩ (Or.inr h34)
                rw [(show shV y n = 0 from if_pos (Int32.not_le.mp h53))] at e1 e3
                refine (l8_sheet (d := d) (s := s) (v := 0) (so := upd (s.1 (41, 12, 0)) a y) (si := (s.1 (41, 13, 0))) ha 0 (Nat.zero_le _) _ ?_ ?_ ?_ ((Fr.rf.pt (by decide)).pt (by decide))).conseq ?_
                · show (sI (sI s (41, 12, 0) a y) (41, 13, 0) a 0).1 (41, 12, 0) = _
                  rw [sI_nr (by decide), sI_row]
                · show (sI (sI s (41, 12, 0) a y) (41, 13, 0) a 0).1 (41, 13, 0) = _
                  rw [sI_row, sI_nr (by decide)]
                · show (sI (sI s (41, 12, 0) a y) (41, 13, 0) a 0).1 (41, 14, 0) = _
                  rw [sI_nr (by decide), sI_nr (by decide), clr_0]
                · rintro z σ ⟨z, t, rfl, rfl, q1, q2, q3, q4, q5⟩
                  exact ⟨z, t, rfl, rfl, q1.trans e1.symm, q2.trans e2.symm, q3.trans e3.symm, q4.trans e4.symm, q5⟩
            · refine wp_ldc dX8_sheet_37 kRX8_244 rfl ?_
              refine wp_iret dX8_sheet_39 rfl rfl ?_
              obtain ⟨e1, e2, e3, e4⟩ := sh_sz (so := (s.1 (41, 12, 0))) (si := (s.1 (41, 13, 0))) (ce := (s.1 (41, 14, 0))) (x := x) (y := y) (n := n) ⟨h4, h13, Or.inr h23⟩ (fun z => z.elim h30 h34)
              exact ⟨_, _, rfl, rfl, e1.symm, e2.symm, e3.symm, e4.symm, Fr.rf⟩
        · refine wp_ldc dX8_sheet_26 kRX8_83 rfl ?_
          refine wp_iret dX8_sheet_28 rfl rfl ?_
          obtain ⟨e1, e2, e3, e4⟩ := sh_no (so := (s.1 (41, 12, 0))) (si := (s.1 (41, 13, 0))) (ce := (s.1 (41, 14, 0))) (x := x) (y := y) (n := n) (fun z => z.2.2.elim h17 h23)
          exact ⟨_, _, rfl, rfl, e1.symm, e2.symm, e3.symm, e4.symm, Fr.rf⟩
theorem l4_become {s : Sn} (ha : a < 4) {x y : Int32} : ∀ k, k ≤ 24 → ∀ s1 : Sn, (∀ q, q < k → s1.1 (29, a, 0) q = 0) → FQ (fun r => r = (29, a, 0)) s s1 → Wp d MX4_become 12 [some (vR 28 a 0), some (vI x), some (vI y), some (vI (nI k))] [] (hN s1) (Pn fun t => (∀ q, q < 24 → t.1 (29, a, 0) q = 0) ∧ FQ (fun r => r = (29, a, 0)) s t) := by
  refine ind_up (fun k hk ih => ?_)
  intro s1 hq hF
  refine wp_iload_n dX4_become_12 rfl rfl ?_
  refine wp_bipush (v := 24) dX4_become_13 (by decide) rfl ?_
  refine wp_icmp_ge (t := 31) dX4_become_15 rfl rfl (fun h15 => ?_) (fun h15 => ?_)
  · refine wp_ret dX4_become_31 rfl ?_
    have hk2 : k = 24 := by have := (nI_leI (a := 24) (by omega) (by omega)).mp h15; omega
    exact ⟨_, rfl, rfl, hk2 ▸ hq, hF⟩
  · have hl : k < 24 := by have := mt (nI_leI (a := 24) (by omega) (by omega)).mpr h15; omega
    refine wp_aload_n dX4_become_18 rfl rfl ?_
    refine wn_getR dX4_become_19 fRX4_9 (o28 ha) rfl rfl rfl ?_
    refine wp_iload_n dX4_become_22 rfl rfl ?_
    refine wp_iconst (v := 0) dX4_become_23 (by decide) rfl ?_
    refine wn_iast dX4_become_24 (o29 ha) rfl (nIx rfl (by omega)) (show k < 24 from hl) rfl ?_
    refine wp_iinc (l' := [_, _, _, some _]) (v := 1) dX4_become_25 rfl (by decide) rfl rfl ?_
    refine wp_goto (t := 12) dX4_become_28 rfl ?_
    have hX : (fun r : Rf => r = (29, a, 0)) (29, a, 0) := rfl
    rw [nI_1]
    refine ih hl _ (fun q hq2 => ?_) (hF.pt hX)
    rw [sI_row]
    by_cases e : q = k
    · rw [e, upd_eq]
    · rw [upd_ne e]; exact hq q (by omega)
theorem c4_become {s : Sn} {so si ce : Fl} {y v : Int32} (ha : a < 4) (h : SH s so si ce) : Ca d MX4_become [vR 28 a 0, vI y, vI v] (hN s) (Pn fun t => SH t (upd so a y) (upd si a v) (clr ce a 24) ∧ FQ XS s t) := by
  change Wp _ _ 0 [some _, some _, some _, none] [] _ _
  refine wp_aload_n dX4_become_0 rfl rfl ?_
  refine wp_iload_n dX4_become_1 rfl rfl ?_
  refine wn_putI dX4_become_2 fRX4_15 (o28 ha) rfl rfl rfl ?_
  refine wp_aload_n dX4_become_5 rfl rfl ?_
  refine wp_iload_n dX4_become_6 rfl rfl ?_
  refine wn_putI dX4_become_7 fRX4_19 (o28 ha) rfl rfl rfl ?_
  refine wp_iconst (v := 0) dX4_become_10 (by decide) rfl ?_
  refine wp_istore_n (l' := [_, _, _, some _]) dX4_become_11 rfl rfl ?_
  refine (l4_become (s := sI (sI s (28, a, 0) 1 y) (28, a, 0) 2 v) ha 0 (Nat.zero_le _) _ (fun q hq => absurd hq (Nat.not_lt_zero q)) FQ.rf).conseq ?_
  rintro z σ ⟨t, rfl, rfl, q1, q2⟩
  refine ⟨t, rfl, rfl, fun b hb => ?_, ((FQ.rf.pt (Or.inl rfl)).pt (Or.inl rfl)).tr (q2.wd (fun r hr => Or.inr (by rw [hr])))⟩
  obtain ⟨p1, p2, p3⟩ := h b hb
  have e28 : ∀ b, t.1 (28, b, 0) = (sI (sI s (28, a, 0) 1 y) (28, a, 0) 2 v).1 (28, b, 0) := fun b => q2.1 _ (fun z => absurd (congrArg Prod.fst z) (by show ¬ 28 = 29; decide))
  rw [e28 b]
  by_cases e : b = a
  · subst e
    rw [sI_row, sI_row, upd_ne (by decide), upd_eq, upd_eq, upd_eq, upd_eq]
    exact ⟨rfl, rfl, fun k hk => by rw [q1 k hk]; exact (if_pos (by omega)).symm⟩
  · rw [sI_ni e, sI_ni e, upd_ne e, upd_ne e]
    refine ⟨p1, p2, fun k hk => ?_⟩
    rw [q2.1 (29, b, 0) (fun z => e (congrArg (fun r : Rf => r.2.1) z)), sI_nt (by decide), sI_nt (by decide), p3 k hk]
    exact (if_neg (by omega)).symm
theorem c4_isMissing {s : Sn} (ha : a < 4) : Ca d MX4_isMissing [vR 28 a 0] (hN s) (Pd (bI (s.1 (28, a, 0) 1 = -1)) s) := by
  change Wp _ _ 0 [some _] [] _ _
  refine wp_aload_n dX4_isMissing_0 rfl rfl ?_
  refine wn_getI dX4_isMissing_1 fRX4_15 (o28 ha) rfl rfl ?_
  refine wp_iconst (v := (-1)) dX4_isMissing_4 (by decide) rfl ?_
  refine wp_icmp_ne (t := 12) dX4_isMissing_5 rfl rfl (fun h5 => ?_) (fun h5 => ?_)
  · refine wp_iconst (v := 0) dX4_isMissing_12 (by decide) rfl ?_
    refine wp_iret dX4_isMissing_13 rfl (by decide) ?_
    exact ⟨_, _, rfl, rfl, (bI_f h5).symm, rfl⟩
  · refine wp_iconst (v := 1) dX4_isMissing_8 (by decide) rfl ?_
    refine wp_goto (t := 13) dX4_isMissing_9 rfl ?_
    refine wp_iret dX4_isMissing_13 rfl (by decide) ?_
    exact ⟨_, _, rfl, rfl, (bI_t h5).symm, rfl⟩
theorem c4_hasPlace {s : Sn} {x : Int32} (ha : a < 4) : Ca d MX4_hasPlace [vR 28 a 0, vI x] (hN s) (Pd (bI ((¬ x < 0 ∧ x < s.1 (28, a, 0) 2) ∧ x < 24)) s) := by
  change Wp _ _ 0 [some _, some _] [] _ _
  refine wp_iload_n dX4_hasPlace_0 rfl rfl ?_
  refine wp_if_lt (t := 22) dX4_hasPlace_1 rfl rfl (fun h1 => ?_) (fun h1 => ?_)
  · refine wp_iconst (v := 0) dX4_hasPlace_22 (by decide) rfl ?_
    refine wp_iret dX4_hasPlace_23 rfl (by decide) ?_
    exact ⟨_, _, rfl, rfl, (bI_f (fun z => z.1.1 h1)).symm, rfl⟩
  · refine wp_iload_n dX4_hasPlace_4 rfl rfl ?_
    refine wp_aload_n dX4_hasPlace_5 rfl rfl ?_
    refine wn_getI dX4_hasPlace_6 fRX4_19 (o28 ha) rfl rfl ?_
    refine wp_icmp_ge (t := 22) dX4_hasPlace_9 rfl rfl (fun h9 => ?_) (fun h9 => ?_)
    · refine wp_iconst (v := 0) dX4_hasPlace_22 (by decide) rfl ?_
      refine wp_iret dX4_hasPlace_23 rfl (by decide) ?_
      exact ⟨_, _, rfl, rfl, (bI_f (fun z => absurd z.1.2 (Int32.not_lt.mpr h9))).symm, rfl⟩
    · refine wp_iload_n dX4_hasPlace_12 rfl rfl ?_
      refine wp_bipush (v := 24) dX4_hasPlace_13 (by decide) rfl ?_
      refine wp_icmp_ge (t := 22) dX4_hasPlace_15 rfl rfl (fun h15 => ?_) (fun h15 => ?_)
      · refine wp_iconst (v := 0) dX4_hasPlace_22 (by decide) rfl ?_
        refine wp_iret dX4_hasPlace_23 rfl (by decide) ?_
        exact ⟨_, _, rfl, rfl, (bI_f (fun z => absurd z.2 (Int32.not_lt.mpr h15))).symm, rfl⟩
      · refine wp_iconst (v := 1) dX4_hasPlace_18 (by decide) rfl ?_
        refine wp_goto (t := 23) dX4_hasPlace_19 rfl ?_
        refine wp_iret dX4_hasPlace_23 rfl (by decide) ?_
        exact ⟨_, _, rfl, rfl, (bI_t ⟨⟨h1, Int32.not_le.mp h9⟩, Int32.not_le.mp h15⟩).symm, rfl⟩
theorem c4_hasPlaces {s : Sn} {x : Int32} (ha : a < 5) : Ca d MX4_hasPlace [vR 32 a 0, vI x] (hN s) (Pd (bI ((¬ x < 0 ∧ x < s.1 (32, a, 0) 2) ∧ x < 24)) s) := by
  change Wp _ _ 0 [some _, some _] [] _ _
  refine wp_iload_n dX4_hasPlace_0 rfl rfl ?_
  refine wp_if_lt (t := 22) dX4_hasPlace_1 rfl rfl (fun h1 => ?_) (fun h1 => ?_)
  · refine wp_iconst (v := 0) dX4_hasPlace_22 (by decide) rfl ?_
    refine wp_iret dX4_hasPlace_23 rfl (by decide) ?_
    exact ⟨_, _, rfl, rfl, (bI_f (fun z => z.1.1 h1)).symm, rfl⟩
  · refine wp_iload_n dX4_hasPlace_4 rfl rfl ?_
    refine wp_aload_n dX4_hasPlace_5 rfl rfl ?_
    refine wn_getI dX4_hasPlace_6 fRX4_19 (o32 ha) rfl rfl ?_
    refine wp_icmp_ge (t := 22) dX4_hasPlace_9 rfl rfl (fun h9 => ?_) (fun h9 => ?_)
    · refine wp_iconst (v := 0) dX4_hasPlace_22 (by decide) rfl ?_
      refine wp_iret dX4_hasPlace_23 rfl (by decide) ?_
      exact ⟨_, _, rfl, rfl, (bI_f (fun z => absurd z.1.2 (Int32.not_lt.mpr h9))).symm, rfl⟩
    · refine wp_iload_n dX4_hasPlace_12 rfl rfl ?_
      refine wp_bipush (v := 24) dX4_hasPlace_13 (by decide) rfl ?_
      refine wp_icmp_ge (t := 22) dX4_hasPlace_15 rfl rfl (fun h15 => ?_) (fun h15 => ?_)
      · refine wp_iconst (v := 0) dX4_hasPlace_22 (by decide) rfl ?_
        refine wp_iret dX4_hasPlace_23 rfl (by decide) ?_
        exact ⟨_, _, rfl, rfl, (bI_f (fun z => absurd z.2 (Int32.not_lt.mpr h15))).symm, rfl⟩
      · refine wp_iconst (v := 1) dX4_hasPlace_18 (by decide) rfl ?_
        refine wp_goto (t := 23) dX4_hasPlace_19 rfl ?_
        refine wp_iret dX4_hasPlace_23 rfl (by decide) ?_
        exact ⟨_, _, rfl, rfl, (bI_t ⟨⟨h1, Int32.not_le.mp h9⟩, Int32.not_le.mp h15⟩).symm, rfl⟩
theorem c7_sheet {s : Sn} {so si ce : Fl} {x y n : Int32} (h : SH s so si ce) : Ca (d + 2) MX7_sheet [vR 10 0 0, vI x, vI y, vI n] (hN s) (Pv fun z t => z = shA x y n ∧ SH t (shS so x y n) (shI si x y n) (shC ce x y n) ∧ FQ XS s t) := by
  change Wp _ _ 0 [some _, some _, some _, some _] [] _ _
  refine wp_iload_n dX7_sheet_0 rfl rfl ?_
  refine wn_callS1d dX7_sheet_1 rRX7_204 (Nat.le_of_ble_eq_true rfl) rfl (Nat.le_of_ble_eq_true rfl) rfl (c7_isSheet) ?_
  refine wp_if_eq_b (t := 27) dX7_sheet_4 rfl rfl (fun h4 => ?_) (fun h4 => ?_)
  · refine wp_ldc dX7_sheet_27 kRX7_68 rfl ?_
    refine wp_iret dX7_sheet_29 rfl rfl ?_
    obtain ⟨e1, e2, e3, e4⟩ := sh_no (so := so) (si := si) (ce := ce) (x := x) (y := y) (n := n) (fun z => h4 z.1)
    exact ⟨_, _, rfl, rfl, e1.symm, by rw [e2, e3, e4]; exact h, FQ.rf⟩
  · refine wp_iload_n dX7_sheet_7 rfl rfl ?_
    refine wp_iconst (v := (-1)) dX7_sheet_8 (by decide) rfl ?_
    refine wp_iconst (v := 1) dX7_sheet_9 (by decide) rfl ?_
    refine wn_callS3d dX7_sheet_10 rRX7_128 (Nat.le_of_ble_eq_true rfl) rfl rfl rfl (Nat.le_of_ble_eq_true rfl) rfl (c7_within) ?_
    refine wp_if_eq_b (t := 27) dX7_sheet_13 rfl rfl (fun h13 => ?_) (fun h13 => ?_)
    · refine wp_ldc dX7_sheet_27 kRX7_68 rfl ?_
      refine wp_iret dX7_sheet_29 rfl rfl ?_
      obtain ⟨e1, e2, e3, e4⟩ := sh_no (so := so) (si := si) (ce := ce) (x := x) (y := y) (n := n) (fun z => h13 z.2.1)
      exact ⟨_, _, rfl, rfl, e1.symm, by rw [e2, e3, e4]; exact h, FQ.rf⟩
    · refine wp_iload_n dX7_sheet_16 rfl rfl ?_
      refine wp_iconst (v := (-1)) dX7_sheet_17 (by decide) rfl ?_
      refine wp_icmp_eq (t := 30) dX7_sheet_18 rfl rfl (fun h18 => ?_) (fun h18 => ?_)
      · refine wp_iload_n dX7_sheet_30 rfl rfl ?_
        refine wp_iconst (v := (-1)) dX7_sheet_31 (by decide) rfl ?_
        refine wp_icmp_eq (t := 43) dX7_sheet_32 rfl rfl (fun h32 => ?_) (fun h32 => ?_)
        · obtain ⟨a, ha, rfl⟩ := sht h4
          refine wp_aload_n dX7_sheet_43 rfl rfl ?_
          refine wn_getR dX7_sheet_44 fRX7_34 o10 rfl rfl rfl ?_
          refine wp_iload_n dX7_sheet_47 rfl rfl ?_
          refine wn_aald25 dX7_sheet_48 (nIx rfl (by omega)) ha rfl ?_
          refine wp_iload_n dX7_sheet_49 rfl rfl ?_
          refine wp_iload_n dX7_sheet_50 rfl rfl ?_
          refine wp_iconst (v := (-1)) dX7_sheet_51 (by decide) rfl ?_
          refine wp_icmp_ne (t := 59) dX7_sheet_52 rfl rfl (fun h52 => ?_) (fun h52 => ?_)
          · refine wp_iload_n dX7_sheet_59 rfl rfl ?_
            refine wn_callV2n dX7_sheet_60 rRX7_260 (rcv_of (o28 ha) rfl) (Nat.le_of_ble_eq_true rfl) rfl rfl (Nat.le_of_ble_eq_true rfl) rfl (c4_become ha h) (fun s60 hq60 => ?_)
            have h60 := hq60
            refine wp_aload_n dX7_sheet_63 rfl rfl ?_
            refine wn_getR dX7_sheet_64 fRX7_34 o10 rfl rfl rfl ?_
            refine wp_iload_n dX7_sheet_67 rfl rfl ?_
            refine wn_aald25 dX7_sheet_68 (nIx rfl (by omega)) ha rfl ?_
            refine wn_getI dX7_sheet_69 fRX7_264 (o28 ha) rfl rfl ?_
            refine wp_iret dX7_sheet_72 rfl rfl ?_
            obtain ⟨e1, e2, e3, e4⟩ := sh_yes (so := so) (si := si) (ce := ce) (y := y) (n := n) ha ⟨h4, h13, Or.inl ((y_m1 h13).mpr h18)⟩ (Or.inl ((y_m1 h13).mpr h32))
            rw [(show shV y n = n from if_neg (fun z => h52 ((y_m1 h13).mp z)))] at e1 e3
            exact ⟨_, _, rfl, rfl, by rw [e1, (h60.1 a ha).2.1, upd_eq], by rw [e2, e3, e4]; exact h60.1, h60.2⟩
          · refine wp_iconst (v := 0) dX7_sheet_55 (by decide) rfl ?_
            refine wp_goto (t := 60) dX7_sheet_56 rfl ?_
            refine wn_callV2n dX7_sheet_60 rRX7_260 (rcv_of (o28 ha) rfl) (Nat.le_of_ble_eq_true rfl) rfl rfl (Nat.le_of_ble_eq_true rfl) rfl (c4_become ha h) (fun s60 hq60 => ?_)
            have h60 := hq60
            refine wp_aload_n dX7_sheet_63 rfl rfl ?_
            refine wn_getR dX7_sheet_64 fRX7_34 o10 rfl rfl rfl ?_
            refine wp_iload_n dX7_sheet_67 rfl rfl ?_
            refine wn_aald25 dX7_sheet_68 (nIx rfl (by omega)) ha rfl ?_
            refine wn_getI dX7_sheet_69 fRX7_264 (o28 ha) rfl rfl ?_
            refine wp_iret dX7_sheet_72 rfl rfl ?_
            obtain ⟨e1, e2, e3, e4⟩ := sh_yes (so := so) (si := si) (ce := ce) (y := y) (n := n) ha ⟨h4, h13, Or.inl ((y_m1 h13).mpr h18)⟩ (Or.inl ((y_m1 h13).mpr h32))
            rw [(show shV y n = 0 from if_pos ((y_m1 h13).mpr h52))] at e1 e3
            exact ⟨_, _, rfl, rfl, by rw [e1, (h60.1 a ha).2.1, upd_eq], by rw [e2, e3, e4]; exact h60.1, h60.2⟩
        · refine wp_iload_n dX7_sheet_35 rfl rfl ?_
          refine wp_if_ge (t := 43) dX7_sheet_36 rfl rfl (fun h36 => ?_) (fun h36 => ?_)
          · obtain ⟨a, ha, rfl⟩ := sht h4
            refine wp_aload_n dX7_sheet_43 rfl rfl ?_
            refine wn_getR dX7_sheet_44 fRX7_34 o10 rfl rfl rfl ?_
            refine wp_iload_n dX7_sheet_47 rfl rfl ?_
            refine wn_aald25 dX7_sheet_48 (nIx rfl (by omega)) ha rfl ?_
            refine wp_iload_n dX7_sheet_49 rfl rfl ?_
            refine wp_iload_n dX7_sheet_50 rfl rfl ?_
            refine wp_iconst (v := (-1)) dX7_sheet_51 (by decide) rfl ?_
            refine wp_icmp_ne (t := 59) dX7_sheet_52 rfl rfl (fun h52 => ?_) (fun h52 => ?_)
            · refine wp_iload_n dX7_sheet_59 rfl rfl ?_
              refine wn_callV2n dX7_sheet_60 rRX7_260 (rcv_of (o28 ha) rfl) (Nat.le_of_ble_eq_true rfl) rfl rfl (Nat.le_of_ble_eq_true rfl) rfl (c4_become ha h) (fun s60 hq60 => ?_)
              have h60 := hq60
              refine wp_aload_n dX7_sheet_63 rfl rfl ?_
              refine wn_getR dX7_sheet_64 fRX7_34 o10 rfl rfl rfl ?_
              refine wp_iload_n dX7_sheet_67 rfl rfl ?_
              refine wn_aald25 dX7_sheet_68 (nIx rfl (by omega)) ha rfl ?_
              refine wn_getI dX7_sheet_69 fRX7_264 (o28 ha) rfl rfl ?_
              refine wp_iret dX7_sheet_72 rfl rfl ?_
              obtain ⟨e1, e2, e3, e4⟩ := sh_yes (so := so) (si := si) (ce := ce) (y := y) (n := n) ha ⟨h4, h13, Or.inl ((y_m1 h13).mpr h18)⟩ (Or.inr h36)
              rw [(show shV y n = n from if_neg (fun z => h52 ((y_m1 h13).mp z)))] at e1 e3
              exact ⟨_, _, rfl, rfl, by rw [e1, (h60.1 a ha).2.1, upd_eq], by rw [e2, e3, e4]; exact h60.1, h60.2⟩
            · refine wp_iconst (v := 0) dX7_sheet_55 (by decide) rfl ?_
              refine wp_goto (t := 60) dX7_sheet_56 rfl ?_
              refine wn_callV2n dX7_sheet_60 rRX7_260 (rcv_of (o28 ha) rfl) (Nat.le_of_ble_eq_true rfl) rfl rfl (Nat.le_of_ble_eq_true rfl) rfl (c4_become ha h) (fun s60 hq60 => ?_)
              have h60 := hq60
              refine wp_aload_n dX7_sheet_63 rfl rfl ?_
              refine wn_getR dX7_sheet_64 fRX7_34 o10 rfl rfl rfl ?_
              refine wp_iload_n dX7_sheet_67 rfl rfl ?_
              refine wn_aald25 dX7_sheet_68 (nIx rfl (by omega)) ha rfl ?_
              refine wn_getI dX7_sheet_69 fRX7_264 (o28 ha) rfl rfl ?_
              refine wp_iret dX7_sheet_72 rfl rfl ?_
              obtain ⟨e1, e2, e3, e4⟩ := sh_yes (so := so) (si := si) (ce := ce) (y := y) (n := n) ha ⟨h4, h13, Or.inl ((y_m1 h13).mpr h18)⟩ (Or.inr h36)
              rw [(show shV y n = 0 from if_pos ((y_m1 h13).mpr h52))] at e1 e3
              exact ⟨_, _, rfl, rfl, by rw [e1, (h60.1 a ha).2.1, upd_eq], by rw [e2, e3, e4]; exact h60.1, h60.2⟩
          · refine wp_ldcw dX7_sheet_39 kRX7_259 rfl ?_
            refine wp_iret dX7_sheet_42 rfl rfl ?_
            obtain ⟨e1, e2, e3, e4⟩ := sh_sz (so := so) (si := si) (ce := ce) (x := x) (y := y) (n := n) ⟨h4, h13, Or.inl ((y_m1 h13).mpr h18)⟩ (fun z => z.elim (fun e => h32 ((y_m1 h13).mp e)) h36)
            exact ⟨_, _, rfl, rfl, e1.symm, by rw [e2, e3, e4]; exact h, FQ.rf⟩
      · refine wp_iload_n dX7_sheet_21 rfl rfl ?_
        refine wp_bipush (v := 24) dX7_sheet_22 (by decide) rfl ?_
        refine wp_icmp_le (t := 30) dX7_sheet_24 rfl rfl (fun h24 => ?_) (fun h24 => ?_)
        · refine wp_iload_n dX7_sheet_30 rfl rfl ?_
          refine wp_iconst (v := (-1)) dX7_sheet_31 (by decide) rfl ?_
          refine wp_icmp_eq (t := 43) dX7_sheet_32 rfl rfl (fun h32 => ?_) (fun h32 => ?_)
          · obtain ⟨a, ha, rfl⟩ := sht h4
            refine wp_aload_n dX7_sheet_43 rfl rfl ?_
            refine wn_getR dX7_sheet_44 fRX7_34 o10 rfl rfl rfl ?_
            refine wp_iload_n dX7_sheet_47 rfl rfl ?_
            refine wn_aald25 dX7_sheet_48 (nIx rfl (by omega)) ha rfl ?_
            refine wp_iload_n dX7_sheet_49 rfl rfl ?_
            refine wp_iload_n dX7_sheet_50 rfl rfl ?_
            refine wp_iconst (v := (-1)) dX7_sheet_51 (by decide) rfl ?_
            refine wp_icmp_ne (t := 59) dX7_sheet_52 rfl rfl (fun h52 => ?_) (fun h52 => ?_)
            · refine wp_iload_n dX7_sheet_59 rfl rfl ?_
              refine wn_callV2n dX7_sheet_60 rRX7_260 (rcv_of (o28 ha) rfl) (Nat.le_of_ble_eq_true rfl) rfl rfl (Nat.le_of_ble_eq_true rfl) rfl (c4_become ha h) (fun s60 hq60 => ?_)
              have h60 := hq60
              refine wp_aload_n dX7_sheet_63 rfl rfl ?_
              refine wn_getR dX7_sheet_64 fRX7_34 o10 rfl rfl rfl ?_
              refine wp_iload_n dX7_sheet_67 rfl rfl ?_
              refine wn_aald25 dX7_sheet_68 (nIx rfl (by omega)) ha rfl ?_
              refine wn_getI dX7_sheet_69 fRX7_264 (o28 ha) rfl rfl ?_
              refine wp_iret dX7_sheet_72 rfl rfl ?_
              obtain ⟨e1, e2, e3, e4⟩ := sh_yes (so := so) (si := si) (ce := ce) (y := y) (n := n) ha ⟨h4, h13, Or.inr h24⟩ (Or.inl ((y_m1 h13).mpr h32))
              rw [(show shV y n = n from if_neg (fun z => h52 ((y_m1 h13).mp z)))] at e1 e3
              exact ⟨_, _, rfl, rfl, by rw [e1, (h60.1 a ha).2.1, upd_eq], by rw [e2, e3, e4]; exact h60.1, h60.2⟩
            · refine wp_iconst (v := 0) dX7_sheet_55 (by decide) rfl ?_
              refine wp_goto (t := 60) dX7_sheet_56 rfl ?_
              refine wn_callV2n dX7_sheet_60 rRX7_260 (rcv_of (o28 ha) rfl) (Nat.le_of_ble_eq_true rfl) rfl rfl (Nat.le_of_ble_eq_true rfl) rfl (c4_become ha h) (fun s60 hq60 => ?_)
              have h60 := hq60
              refine wp_aload_n dX7_sheet_63 rfl rfl ?_
              refine wn_getR dX7_sheet_64 fRX7_34 o10 rfl rfl rfl ?_
              refine wp_iload_n dX7_sheet_67 rfl rfl ?_
              refine wn_aald25 dX7_sheet_68 (nIx rfl (by omega)) ha rfl ?_
              refine wn_getI dX7_sheet_69 fRX7_264 (o28 ha) rfl rfl ?_
              refine wp_iret dX7_sheet_72 rfl rfl ?_
              obtain ⟨e1, e2, e3, e4⟩ := sh_yes (so := so) (si := si) (ce := ce) (y := y) (n := n) ha ⟨h4, h13, Or.inr h24⟩ (Or.inl ((y_m1 h13).mpr h32))
              rw [(show shV y n = 0 from if_pos ((y_m1 h13).mpr h52))] at e1 e3
              exact ⟨_, _, rfl, rfl, by rw [e1, (h60.1 a ha).2.1, upd_eq], by rw [e2, e3, e4]; exact h60.1, h60.2⟩
          · refine wp_iload_n dX7_sheet_35 rfl rfl ?_
            refine wp_if_ge (t := 43) dX7_sheet_36 rfl rfl (fun h36 => ?_) (fun h36 => ?_)
            · obtain ⟨a, ha, rfl⟩ := sht h4
              refine wp_aload_n dX7_sheet_43 rfl rfl ?_
              refine wn_getR dX7_sheet_44 fRX7_34 o10 rfl rfl rfl ?_
              refine wp_iload_n dX7_sheet_47 rfl rfl ?_
              refine wn_aald25 dX7_sheet_48 (nIx rfl (by omega)) ha rfl ?_
              refine wp_iload_n dX7_sheet_49 rfl rfl ?_
              refine wp_iload_n dX7_sheet_50 rfl rfl ?_
              refine wp_iconst (v := (-1)) dX7_sheet_51 (by decide) rfl ?_
              refine wp_icmp_ne (t := 59) dX7_sheet_52 rfl rfl (fun h52 => ?_) (fun h52 => ?_)
              · refine wp_iload_n dX7_sheet_59 rfl rfl ?_
                refine wn_callV2n dX7_sheet_60 rRX7_260 (rcv_of (o28 ha) rfl) (Nat.le_of_ble_eq_true rfl) rfl rfl (Nat.le_of_ble_eq_true rfl) rfl (c4_become ha h) (fun s60 hq60 => ?_)
                have h60 := hq60
                refine wp_aload_n dX7_sheet_63 rfl rfl ?_
                refine wn_getR dX7_sheet_64 fRX7_34 o10 rfl rfl rfl ?_
                refine wp_iload_n dX7_sheet_67 rfl rfl ?_
                refine wn_aald25 dX7_sheet_68 (nIx rfl (by omega)) ha rfl ?_
                refine wn_getI dX7_sheet_69 fRX7_264 (o28 ha) rfl rfl ?_
                refine wp_iret dX7_sheet_72 rfl rfl ?_
                obtain ⟨e1, e2, e3, e4⟩ := sh_yes (so := so) (si := si) (ce := ce) (y := y) (n := n) ha ⟨h4, h13, Or.inr h24⟩ (Or.inr h36)
                rw [(show shV y n = n from if_neg (fun z => h52 ((y_m1 h13).mp z)))] at e1 e3
                exact ⟨_, _, rfl, rfl, by rw [e1, (h60.1 a ha).2.1, upd_eq], by rw [e2, e3, e4]; exact h60.1, h60.2⟩
              · refine wp_iconst (v := 0) dX7_sheet_55 (by decide) rfl ?_
                refine wp_goto (t := 60) dX7_sheet_56 rfl ?_
                refine wn_callV2n dX7_sheet_60 rRX7_260 (rcv_of (o28 ha) rfl) (Nat.le_of_ble_eq_true rfl) rfl rfl (Nat.le_of_ble_eq_true rfl) rfl (c4_become ha h) (fun s60 hq60 => ?_)
                have h60 := hq60
                refine wp_aload_n dX7_sheet_63 rfl rfl ?_
                refine wn_getR dX7_sheet_64 fRX7_34 o10 rfl rfl rfl ?_
                refine wp_iload_n dX7_sheet_67 rfl rfl ?_
                refine wn_aald25 dX7_sheet_68 (nIx rfl (by omega)) ha rfl ?_
                refine wn_getI dX7_sheet_69 fRX7_264 (o28 ha) rfl rfl ?_
                refine wp_iret dX7_sheet_72 rfl rfl ?_
                obtain ⟨e1, e2, e3, e4⟩ := sh_yes (so := so) (si := si) (ce := ce) (y := y) (n := n) ha ⟨h4, h13, Or.inr h24⟩ (Or.inr h36)
                rw [(show shV y n = 0 from if_pos ((y_m1 h13).mpr h52))] at e1 e3
                exact ⟨_, _, rfl, rfl, by rw [e1, (h60.1 a ha).2.1, upd_eq], by rw [e2, e3, e4]; exact h60.1, h60.2⟩
            · refine wp_ldcw dX7_sheet_39 kRX7_259 rfl ?_
              refine wp_iret dX7_sheet_42 rfl rfl ?_
              obtain ⟨e1, e2, e3, e4⟩ := sh_sz (so := so) (si := si) (ce := ce) (x := x) (y := y) (n := n) ⟨h4, h13, Or.inr h24⟩ (fun z => z.elim (fun e => h32 ((y_m1 h13).mp e)) h36)
              exact ⟨_, _, rfl, rfl, e1.symm, by rw [e2, e3, e4]; exact h, FQ.rf⟩
        · refine wp_ldc dX7_sheet_27 kRX7_68 rfl ?_
          refine wp_iret dX7_sheet_29 rfl rfl ?_
          obtain ⟨e1, e2, e3, e4⟩ := sh_no (so := so) (si := si) (ce := ce) (x := x) (y := y) (n := n) (fun z => z.2.2.elim (fun e => h18 ((y_m1 h13).mp e)) h24)
          exact ⟨_, _, rfl, rfl, e1.symm, by rw [e2, e3, e4]; exact h, FQ.rf⟩
abbrev i16 (v : Int32) : Int32 := v.toInt16.toInt32
def mkV (so v : Int32) : Int32 := if so = 0 then i16 v else v
/-- why a mark is refused; 1: it is not -/
def mkG (so si p v : Int32) : Int32 := if so < 0 then -1000000011 else if ¬ (0 ≤ p ∧ p ≤ si - 1) then -1000000013 else if so = 0 ∧ v = -1000000005 then -1000000012 else if so = 1 ∧ ¬ v = -1000000005 ∧ ¬ (-99999 ≤ v ∧ v ≤ 99999) then -1000000001 else 1
def mkA (so si : Fl) (x p v : Int32) : Int32 := if 0 ≤ x ∧ x ≤ 3 then mkG (so x.toNatClampNeg) (si x.toNatClampNeg) p v else -1000000001
def mkC (so si ce : Fl) (x p v : Int32) : Fl := if mkA so si x p v = 1 then upd ce (24 * x.toNatClampNeg + p.toNatClampNeg) (mkV (so x.toNatClampNeg) v) else ce
theorem mk_no {so si ce : Fl} {x p v : Int32} (h : ¬ (0 ≤ x ∧ x ≤ 3)) : mkA so si x p v = -1000000001 ∧ mkC so si ce x p v = ce := by
  have e : mkA so si x p v = -1000000001 := if_neg h
  exact ⟨e, if_neg (by rw [e]; decide)⟩
theorem mk_g {so si ce : Fl} {p v z : Int32} (ha : a < 4) (hx : 0 ≤ nI a ∧ nI a ≤ 3) (h : mkG (so a) (si a) p v = z) (hz : ¬ z = 1) : mkA so si (nI a) p v = z ∧ mkC so si ce (nI a) p v = ce := by
  have e : mkA so si (nI a) p v = z := by unfold mkA; rw [if_pos hx, nI_clamp (by omega)]; exact h
  exact ⟨e, if_neg (by rw [e]; exact hz)⟩
theorem mk_y {so si ce : Fl} {v : Int32} {k : Nat} (ha : a < 4) (hk : k < 24) (hx : 0 ≤ nI a ∧ nI a ≤ 3) (h : mkG (so a) (si a) (nI k) v = 1) : mkA so si (nI a) (nI k) v = 1 ∧ mkC so si ce (nI a) (nI k) v = upd ce (24 * a + k) (mkV (so a) v) := by
  have e : mkA so si (nI a) (nI k) v = 1 := by unfold mkA; rw [if_pos hx, nI_clamp (by omega)]; exact h
  refine ⟨e, ?_⟩
  unfold mkC
  rw [if_pos e, nI_clamp (by omega), nI_clamp (by omega)]
theorem plc {si p : Int32} {n : Nat} (hn : n ≤ 24) (hs : si = nI n) (h : 0 ≤ p ∧ p ≤ si - 1) : ∃ k, k < n ∧ p = nI k := by
  obtain ⟨k, hk, rfl⟩ := nI_of (Int32.not_lt.mpr h.1)
  refine ⟨k, ?_, rfl⟩
  by_cases h0 : n = 0
  · subst h0; subst hs
    exact absurd (Int32.le_trans h.1 h.2) (by decide)
  · have e : nI n - 1 = nI (n - 1) := by rw [show nI n = nI ((n - 1) + 1) by rw [show n - 1 + 1 = n by omega], nI_pred]
    rw [hs, e] at h
    have := (nI_leI hk (by omega)).mp h.2
    omega
theorem plc2 {si p : Int32} {n : Nat} (hn : n ≤ 24) (hs : si = nI n) : ((¬ p < 0 ∧ p < si) ∧ p < 24) ↔ (0 ≤ p ∧ p ≤ si - 1) := by
  subst hs
  constructor
  · rintro ⟨⟨h0, h1⟩, _⟩
    obtain ⟨k, hk, rfl⟩ := nI_of h0
    have := (nI_ltI hk (by omega)).mp h1
    have e : nI n - 1 = nI (n - 1) := by rw [show nI n = nI ((n - 1) + 1) by rw [show n - 1 + 1 = n by omega], nI_pred]
    rw [e]
    exact ⟨nI_pos' hk, (nI_leI hk (by omega)).mpr (by omega)⟩
  · intro h
    obtain ⟨k, hk, rfl⟩ := plc hn rfl h
    exact ⟨⟨nI_pos (by omega), (nI_ltI (by omega) (by omega)).mpr hk⟩, (nI_ltI (b := 24) (by omega) (by decide)).mpr (by omega)⟩
theorem c8_mark {s : Sn} {x p v : Int32} (hQ : SQ (s.1 (41, 12, 0)) (s.1 (41, 13, 0))) : Ca (d + 2) MX8_mark [vR 40 0 0, vI x, vI p, vI v] (hN s) (Pv fun z t => z = mkA (s.1 (41, 12, 0)) (s.1 (41, 13, 0)) x p v ∧ t.1 (41, 14, 0) = mkC (s.1 (41, 12, 0)) (s.1 (41, 13, 0)) (s.1 (41, 14, 0)) x p v ∧ Fr [(41, 14, 0)] s t) := by
  change Wp _ _ 0 [some _, some _, some _, some _] [] _ _
  refine wp_iload_n dX8_mark_0 rfl rfl ?_
  refine wn_callS1d dX8_mark_1 rRX8_168 (Nat.le_of_ble_eq_true rfl) rfl (Nat.le_of_ble_eq_true rfl) rfl (c8_isSheet) ?_
  refine wp_if_ne_b (t := 10) dX8_mark_4 rfl rfl (fun h4 => ?_) (fun h4 => ?_)
  · obtain ⟨a, ha, rfl⟩ := sht h4
    obtain ⟨hs, n, hn, hsi⟩ := hQ a ha
    refine wp_aload_n dX8_mark_10 rfl rfl ?_
    refine wn_getR dX8_mark_11 fRX8_48 o40 rfl rfl rfl ?_
    refine wp_iload_n dX8_mark_14 rfl rfl ?_
    refine wn_iald dX8_mark_15 (o41 12 rfl) rfl (nIx rfl (by omega)) (show a < 4 from ha) rfl ?_
    refine wp_if_ge (t := 22) dX8_mark_16 rfl rfl (fun h16 => ?_) (fun h16 => ?_)
    · refine wp_iload_n dX8_mark_22 rfl rfl ?_
      refine wp_iconst (v := 0) dX8_mark_23 (by decide) rfl ?_
      refine wp_aload_n dX8_mark_24 rfl rfl ?_
      refine wn_getR dX8_mark_25 fRX8_51 o40 rfl rfl rfl ?_
      refine wp_iload_n dX8_mark_28 rfl rfl ?_
      refine wn_iald dX8_mark_29 (o41 13 rfl) rfl (nIx rfl (by omega)) (show a < 4 from ha) rfl ?_
      refine wp_iconst (v := 1) dX8_mark_30 (by decide) rfl ?_
      refine wp_isub dX8_mark_31 rfl ?_
      refine wn_callS3d dX8_mark_32 rRX8_75 (Nat.le_of_ble_eq_true rfl) rfl rfl rfl (Nat.le_of_ble_eq_true rfl) rfl (c8_in) ?_
      refine wp_if_ne_b (t := 41) dX8_mark_35 rfl rfl (fun h35 => ?_) (fun h35 => ?_)
      · obtain ⟨k, hk, rfl⟩ := plc hn hsi h35
        refine wp_aload_n dX8_mark_41 rfl rfl ?_
        refine wn_getR dX8_mark_42 fRX8_48 o40 rfl rfl rfl ?_
        refine wp_iload_n dX8_mark_45 rfl rfl ?_
        refine wn_iald dX8_mark_46 (o41 12 rfl) rfl (nIx rfl (by omega)) (show a < 4 from ha) rfl ?_
        refine wp_if_ne (t := 59) dX8_mark_47 rfl rfl (fun h47 => ?_) (fun h47 => ?_)
        · refine wp_aload_n dX8_mark_59 rfl rfl ?_
          refine wn_getR dX8_mark_60 fRX8_48 o40 rfl rfl rfl ?_
          refine wp_iload_n dX8_mark_63 rfl rfl ?_
          refine wn_iald dX8_mark_64 (o41 12 rfl) rfl (nIx rfl (by omega)) (show a < 4 from ha) rfl ?_
          refine wp_iconst (v := 1) dX8_mark_65 (by decide) rfl ?_
          refine wp_icmp_ne (t := 89) dX8_mark_66 rfl rfl (fun h66 => ?_) (fun h66 => ?_)
          · refine wp_aload_n dX8_mark_89 rfl rfl ?_
            refine wn_getR dX8_mark_90 fRX8_54 o40 rfl rfl rfl ?_
            refine wp_bipush (v := 24) dX8_mark_93 (by decide) rfl ?_
            refine wp_iload_n dX8_mark_95 rfl rfl ?_
            refine wp_imul dX8_mark_96 rfl ?_
            refine wp_iload_n dX8_mark_97 rfl rfl ?_
            refine wp_iadd dX8_mark_98 rfl ?_
            refine wp_aload_n dX8_mark_99 rfl rfl ?_
            refine wn_getR dX8_mark_100 fRX8_48 o40 rfl rfl rfl ?_
            refine wp_iload_n dX8_mark_103 rfl rfl ?_
            refine wn_iald dX8_mark_104 (o41 12 rfl) rfl (nIx rfl (by omega)) (show a < 4 from ha) rfl ?_
            refine wp_if_ne (t := 113) dX8_mark_105 rfl rfl (fun h105 => ?_) (fun h105 => ?_)
            · refine wp_iload_n dX8_mark_113 rfl rfl ?_
              refine wn_iast dX8_mark_114 (o41 14 rfl) rfl (nIx ix_24 (by omega)) (by show _ < 96; omega) rfl ?_
              refine wp_iconst (v := 1) dX8_mark_115 (by decide) rfl ?_
              refine wp_iret dX8_mark_116 rfl rfl ?_
              have hg : mkG ((s.1 (41, 12, 0)) a) ((s.1 (41, 13, 0)) a) (nI k) v = 1 := by unfold mkG; rw [if_neg (Int32.not_lt.mpr h16), if_neg (fun z => z h35), if_neg (fun z => h47 z.1), if_neg (fun z => h66 z.1)]
              obtain ⟨e1, e2⟩ := mk_y (so := (s.1 (41, 12, 0))) (si := (s.1 (41, 13, 0))) (ce := (s.1 (41, 14, 0))) ha (by omega) h4 hg
              rw [show mkV ((s.1 (41, 12, 0)) a) v = v from if_neg h105] at e2
              refine ⟨_, _, rfl, rfl, e1.symm, ?_, Fr.rf.pt (by decide)⟩
              rw [sI_row]; exact e2.symm
            · refine wp_iload_n dX8_mark_108 rfl rfl ?_
              refine wp_i2s dX8_mark_109 rfl ?_
              refine wp_goto (t := 114) dX8_mark_110 rfl ?_
              refine wn_iast dX8_mark_114 (o41 14 rfl) rfl (nIx ix_24 (by omega)) (by show _ < 96; omega) rfl ?_
              refine wp_iconst (v := 1) dX8_mark_115 (by decide) rfl ?_
              refine wp_iret dX8_mark_116 rfl rfl ?_
              have hg : mkG ((s.1 (41, 12, 0)) a) ((s.1 (41, 13, 0)) a) (nI k) v = 1 := by unfold mkG; rw [if_neg (Int32.not_lt.mpr h16), if_neg (fun z => z h35), if_neg (fun z => h47 z.1), if_neg (fun z => h66 z.1)]
              obtain ⟨e1, e2⟩ := mk_y (so := (s.1 (41, 12, 0))) (si := (s.1 (41, 13, 0))) (ce := (s.1 (41, 14, 0))) ha (by omega) h4 hg
              rw [show mkV ((s.1 (41, 12, 0)) a) v = i16 v from if_pos h105] at e2
              refine ⟨_, _, rfl, rfl, e1.symm, ?_, Fr.rf.pt (by decide)⟩
              rw [sI_row]; exact e2.symm
          · refine wp_iload_n dX8_mark_69 rfl rfl ?_
            refine wp_ldc dX8_mark_70 kRX8_149 rfl ?_
            refine wp_icmp_eq (t := 89) dX8_mark_72 rfl rfl (fun h72 => ?_) (fun h72 => ?_)
            · refine wp_aload_n dX8_mark_89 rfl rfl ?_
              refine wn_getR dX8_mark_90 fRX8_54 o40 rfl rfl rfl ?_
              refine wp_bipush (v := 24) dX8_mark_93 (by decide) rfl ?_
              refine wp_iload_n dX8_mark_95 rfl rfl ?_
              refine wp_imul dX8_mark_96 rfl ?_
              refine wp_iload_n dX8_mark_97 rfl rfl ?_
              refine wp_iadd dX8_mark_98 rfl ?_
              refine wp_aload_n dX8_mark_99 rfl rfl ?_
              refine wn_getR dX8_mark_100 fRX8_48 o40 rfl rfl rfl ?_
              refine wp_iload_n dX8_mark_103 rfl rfl ?_
              refine wn_iald dX8_mark_104 (o41 12 rfl) rfl (nIx rfl (by omega)) (show a < 4 from ha) rfl ?_
              refine wp_if_ne (t := 113) dX8_mark_105 rfl rfl (fun h105 => ?_) (fun h105 => ?_)
              · refine wp_iload_n dX8_mark_113 rfl rfl ?_
                refine wn_iast dX8_mark_114 (o41 14 rfl) rfl (nIx ix_24 (by omega)) (by show _ < 96; omega) rfl ?_
                refine wp_iconst (v := 1) dX8_mark_115 (by decide) rfl ?_
                refine wp_iret dX8_mark_116 rfl rfl ?_
                have hg : mkG ((s.1 (41, 12, 0)) a) ((s.1 (41, 13, 0)) a) (nI k) v = 1 := by unfold mkG; rw [if_neg (Int32.not_lt.mpr h16), if_neg (fun z => z h35), if_neg (fun z => h47 z.1), if_neg (fun z => z.2.1 h72)]
                obtain ⟨e1, e2⟩ := mk_y (so := (s.1 (41, 12, 0))) (si := (s.1 (41, 13, 0))) (ce := (s.1 (41, 14, 0))) ha (by omega) h4 hg
                rw [show mkV ((s.1 (41, 12, 0)) a) v = v from if_neg h105] at e2
                refine ⟨_, _, rfl, rfl, e1.symm, ?_, Fr.rf.pt (by decide)⟩
                rw [sI_row]; exact e2.symm
              · refine wp_iload_n dX8_mark_108 rfl rfl ?_
                refine wp_i2s dX8_mark_109 rfl ?_
                refine wp_goto (t := 114) dX8_mark_110 rfl ?_
                refine wn_iast dX8_mark_114 (o41 14 rfl) rfl (nIx ix_24 (by omega)) (by show _ < 96; omega) rfl ?_
                refine wp_iconst (v := 1) dX8_mark_115 (by decide) rfl ?_
                refine wp_iret dX8_mark_116 rfl rfl ?_
                have hg : mkG ((s.1 (41, 12, 0)) a) ((s.1 (41, 13, 0)) a) (nI k) v = 1 := by unfold mkG; rw [if_neg (Int32.not_lt.mpr h16), if_neg (fun z => z h35), if_neg (fun z => h47 z.1), if_neg (fun z => z.2.1 h72)]
                obtain ⟨e1, e2⟩ := mk_y (so := (s.1 (41, 12, 0))) (si := (s.1 (41, 13, 0))) (ce := (s.1 (41, 14, 0))) ha (by omega) h4 hg
                rw [show mkV ((s.1 (41, 12, 0)) a) v = i16 v from if_pos h105] at e2
                refine ⟨_, _, rfl, rfl, e1.symm, ?_, Fr.rf.pt (by decide)⟩
                rw [sI_row]; exact e2.symm
            · refine wp_iload_n dX8_mark_75 rfl rfl ?_
              refine wp_ldc dX8_mark_76 kRX8_246 rfl ?_
              refine wp_ldc dX8_mark_78 kRX8_247 rfl ?_
              refine wn_callS3d dX8_mark_80 rRX8_75 (Nat.le_of_ble_eq_true rfl) rfl rfl rfl (Nat.le_of_ble_eq_true rfl) rfl (c8_in) ?_
              refine wp_if_ne_b (t := 89) dX8_mark_83 rfl rfl (fun h83 => ?_) (fun h83 => ?_)
              · refine wp_aload_n dX8_mark_89 rfl rfl ?_
                refine wn_getR dX8_mark_90 fRX8_54 o40 rfl rfl rfl ?_
                refine wp_bipush (v := 24) dX8_mark_93 (by decide) rfl ?_
                refine wp_iload_n dX8_mark_95 rfl rfl ?_
                refine wp_imul dX8_mark_96 rfl ?_
                refine wp_iload_n dX8_mark_97 rfl rfl ?_
                refine wp_iadd dX8_mark_98 rfl ?_
                refine wp_aload_n dX8_mark_99 rfl rfl ?_
                refine wn_getR dX8_mark_100 fRX8_48 o40 rfl rfl rfl ?_
                refine wp_iload_n dX8_mark_103 rfl rfl ?_
                refine wn_iald dX8_mark_104 (o41 12 rfl) rfl (nIx rfl (by omega)) (show a < 4 from ha) rfl ?_
                refine wp_if_ne (t := 113) dX8_mark_105 rfl rfl (fun h105 => ?_) (fun h105 => ?_)
                · refine wp_iload_n dX8_mark_113 rfl rfl ?_
                  refine wn_iast dX8_mark_114 (o41 14 rfl) rfl (nIx ix_24 (by omega)) (by show _ < 96; omega) rfl ?_
                  refine wp_iconst (v := 1) dX8_mark_115 (by decide) rfl ?_
                  refine wp_iret dX8_mark_116 rfl rfl ?_
                  have hg : mkG ((s.1 (41, 12, 0)) a) ((s.1 (41, 13, 0)) a) (nI k) v = 1 := by unfold mkG; rw [if_neg (Int32.not_lt.mpr h16), if_neg (fun z => z h35), if_neg (fun z => h47 z.1), if_neg (fun z => z.2.2 h83)]
                  obtain ⟨e1, e2⟩ := mk_y (so := (s.1 (41, 12, 0))) (si := (s.1 (41, 13, 0))) (ce := (s.1 (41, 14, 0))) ha (by omega) h4 hg
                  rw [show mkV ((s.1 (41, 12, 0)) a) v = v from if_neg h105] at e2
                  refine ⟨_, _, rfl, rfl, e1.symm, ?_, Fr.rf.pt (by decide)⟩
                  rw [sI_row]; exact e2.symm
                · refine wp_iload_n dX8_mark_108 rfl rfl ?_
                  refine wp_i2s dX8_mark_109 rfl ?_
                  refine wp_goto (t := 114) dX8_mark_110 rfl ?_
                  refine wn_iast dX8_mark_114 (o41 14 rfl) rfl (nIx ix_24 (by omega)) (by show _ < 96; omega) rfl ?_
                  refine wp_iconst (v := 1) dX8_mark_115 (by decide) rfl ?_
                  refine wp_iret dX8_mark_116 rfl rfl ?_
                  have hg : mkG ((s.1 (41, 12, 0)) a) ((s.1 (41, 13, 0)) a) (nI k) v = 1 := by unfold mkG; rw [if_neg (Int32.not_lt.mpr h16), if_neg (fun z => z h35), if_neg (fun z => h47 z.1), if_neg (fun z => z.2.2 h83)]
                  obtain ⟨e1, e2⟩ := mk_y (so := (s.1 (41, 12, 0))) (si := (s.1 (41, 13, 0))) (ce := (s.1 (41, 14, 0))) ha (by omega) h4 hg
                  rw [show mkV ((s.1 (41, 12, 0)) a) v = i16 v from if_pos h105] at e2
                  refine ⟨_, _, rfl, rfl, e1.symm, ?_, Fr.rf.pt (by decide)⟩
                  rw [sI_row]; exact e2.symm
              · refine wp_ldc dX8_mark_86 kRX8_83 rfl ?_
                refine wp_iret dX8_mark_88 rfl rfl ?_
                have hg : mkG ((s.1 (41, 12, 0)) a) ((s.1 (41, 13, 0)) a) (nI k) v = -1000000001 := by unfold mkG; rw [if_neg (Int32.not_lt.mpr h16), if_neg (fun z => z h35), if_neg (fun z => h47 z.1), if_pos ⟨h66, h72, h83⟩]
                obtain ⟨e1, e2⟩ := mk_g (so := (s.1 (41, 12, 0))) (si := (s.1 (41, 13, 0))) (ce := (s.1 (41, 14, 0))) ha h4 hg (by decide)
                exact ⟨_, _, rfl, rfl, e1.symm, e2.symm, Fr.rf⟩
        · refine wp_iload_n dX8_mark_50 rfl rfl ?_
          refine wp_ldc dX8_mark_51 kRX8_149 rfl ?_
          refine wp_icmp_ne (t := 59) dX8_mark_53 rfl rfl (fun h53 => ?_) (fun h53 => ?_)
          · refine wp_aload_n dX8_mark_59 rfl rfl ?_
            refine wn_getR dX8_mark_60 fRX8_48 o40 rfl rfl rfl ?_
            refine wp_iload_n dX8_mark_63 rfl rfl ?_
            refine wn_iald dX8_mark_64 (o41 12 rfl) rfl (nIx rfl (by omega)) (show a < 4 from ha) rfl ?_
            refine wp_iconst (v := 1) dX8_mark_65 (by decide) rfl ?_
            refine wp_icmp_ne (t := 89) dX8_mark_66 rfl rfl (fun h66 => ?_) (fun h66 => ?_)
            · refine wp_aload_n dX8_mark_89 rfl rfl ?_
              refine wn_getR dX8_mark_90 fRX8_54 o40 rfl rfl rfl ?_
              refine wp_bipush (v := 24) dX8_mark_93 (by decide) rfl ?_
              refine wp_iload_n dX8_mark_95 rfl rfl ?_
              refine wp_imul dX8_mark_96 rfl ?_
              refine wp_iload_n dX8_mark_97 rfl rfl ?_
              refine wp_iadd dX8_mark_98 rfl ?_
              refine wp_aload_n dX8_mark_99 rfl rfl ?_
              refine wn_getR dX8_mark_100 fRX8_48 o40 rfl rfl rfl ?_
              refine wp_iload_n dX8_mark_103 rfl rfl ?_
              refine wn_iald dX8_mark_104 (o41 12 rfl) rfl (nIx rfl (by omega)) (show a < 4 from ha) rfl ?_
              refine wp_if_ne (t := 113) dX8_mark_105 rfl rfl (fun h105 => ?_) (fun h105 => ?_)
              · refine wp_iload_n dX8_mark_113 rfl rfl ?_
                refine wn_iast dX8_mark_114 (o41 14 rfl) rfl (nIx ix_24 (by omega)) (by show _ < 96; omega) rfl ?_
                refine wp_iconst (v := 1) dX8_mark_115 (by decide) rfl ?_
                refine wp_iret dX8_mark_116 rfl rfl ?_
                have hg : mkG ((s.1 (41, 12, 0)) a) ((s.1 (41, 13, 0)) a) (nI k) v = 1 := by unfold mkG; rw [if_neg (Int32.not_lt.mpr h16), if_neg (fun z => z h35), if_neg (fun z => h53 z.2), if_neg (fun z => h66 z.1)]
                obtain ⟨e1, e2⟩ := mk_y (so := (s.1 (41, 12, 0))) (si := (s.1 (41, 13, 0))) (ce := (s.1 (41, 14, 0))) ha (by omega) h4 hg
                rw [show mkV ((s.1 (41, 12, 0)) a) v = v from if_neg h105] at e2
                refine ⟨_, _, rfl, rfl, e1.symm, ?_, Fr.rf.pt (by decide)⟩
                rw [sI_row]; exact e2.symm
              · refine wp_iload_n dX8_mark_108 rfl rfl ?_
                refine wp_i2s dX8_mark_109 rfl ?_
                refine wp_goto (t := 114) dX8_mark_110 rfl ?_
                refine wn_iast dX8_mark_114 (o41 14 rfl) rfl (nIx ix_24 (by omega)) (by show _ < 96; omega) rfl ?_
                refine wp_iconst (v := 1) dX8_mark_115 (by decide) rfl ?_
                refine wp_iret dX8_mark_116 rfl rfl ?_
                have hg : mkG ((s.1 (41, 12, 0)) a) ((s.1 (41, 13, 0)) a) (nI k) v = 1 := by unfold mkG; rw [if_neg (Int32.not_lt.mpr h16), if_neg (fun z => z h35), if_neg (fun z => h53 z.2), if_neg (fun z => h66 z.1)]
                obtain ⟨e1, e2⟩ := mk_y (so := (s.1 (41, 12, 0))) (si := (s.1 (41, 13, 0))) (ce := (s.1 (41, 14, 0))) ha (by omega) h4 hg
                rw [show mkV ((s.1 (41, 12, 0)) a) v = i16 v from if_pos h105] at e2
                refine ⟨_, _, rfl, rfl, e1.symm, ?_, Fr.rf.pt (by decide)⟩
                rw [sI_row]; exact e2.symm
            · refine wp_iload_n dX8_mark_69 rfl rfl ?_
              refine wp_ldc dX8_mark_70 kRX8_149 rfl ?_
              refine wp_icmp_eq (t := 89) dX8_mark_72 rfl rfl (fun h72 => ?_) (fun h72 => ?_)
              · refine wp_aload_n dX8_mark_89 rfl rfl ?_
                refine wn_getR dX8_mark_90 fRX8_54 o40 rfl rfl rfl ?_
                refine wp_bipush (v := 24) dX8_mark_93 (by decide) rfl ?_
                refine wp_iload_n dX8_mark_95 rfl rfl ?_
                refine wp_imul dX8_mark_96 rfl ?_
                refine wp_iload_n dX8_mark_97 rfl rfl ?_
                refine wp_iadd dX8_mark_98 rfl ?_
                refine wp_aload_n dX8_mark_99 rfl rfl ?_
                refine wn_getR dX8_mark_100 fRX8_48 o40 rfl rfl rfl ?_
                refine wp_iload_n dX8_mark_103 rfl rfl ?_
                refine wn_iald dX8_mark_104 (o41 12 rfl) rfl (nIx rfl (by omega)) (show a < 4 from ha) rfl ?_
                refine wp_if_ne (t := 113) dX8_mark_105 rfl rfl (fun h105 => ?_) (fun h105 => ?_)
                · refine wp_iload_n dX8_mark_113 rfl rfl ?_
                  refine wn_iast dX8_mark_114 (o41 14 rfl) rfl (nIx ix_24 (by omega)) (by show _ < 96; omega) rfl ?_
                  refine wp_iconst (v := 1) dX8_mark_115 (by decide) rfl ?_
                  refine wp_iret dX8_mark_116 rfl rfl ?_
                  have hg : mkG ((s.1 (41, 12, 0)) a) ((s.1 (41, 13, 0)) a) (nI k) v = 1 := by unfold mkG; rw [if_neg (Int32.not_lt.mpr h16), if_neg (fun z => z h35), if_neg (fun z => h53 z.2), if_neg (fun z => z.2.1 h72)]
                  obtain ⟨e1, e2⟩ := mk_y (so := (s.1 (41, 12, 0))) (si := (s.1 (41, 13, 0))) (ce := (s.1 (41, 14, 0))) ha (by omega) h4 hg
                  rw [show mkV ((s.1 (41, 12, 0)) a) v = v from if_neg h105] at e2
                  refine ⟨_, _, rfl, rfl, e1.symm, ?_, Fr.rf.pt (by decide)⟩
                  rw [sI_row]; exact e2.symm
                · refine wp_iload_n dX8_mark_108 rfl rfl ?_
                  refine wp_i2s dX8_mark_109 rfl ?_
                  refine wp_goto (t := 114) dX8_mark_110 rfl ?_
                  refine wn_iast dX8_mark_114 (o41 14 rfl) rfl (nIx ix_24 (by omega)) (by show _ < 96; omega) rfl ?_
                  refine wp_iconst (v := 1) dX8_mark_115 (by decide) rfl ?_
                  refine wp_iret dX8_mark_116 rfl rfl ?_
                  have hg : mkG ((s.1 (41, 12, 0)) a) ((s.1 (41, 13, 0)) a) (nI k) v = 1 := by unfold mkG; rw [if_neg (Int32.not_lt.mpr h16), if_neg (fun z => z h35), if_neg (fun z => h53 z.2), if_neg (fun z => z.2.1 h72)]
                  obtain ⟨e1, e2⟩ := mk_y (so := (s.1 (41, 12, 0))) (si := (s.1 (41, 13, 0))) (ce := (s.1 (41, 14, 0))) ha (by omega) h4 hg
                  rw [show mkV ((s.1 (41, 12, 0)) a) v = i16 v from if_pos h105] at e2
                  refine ⟨_, _, rfl, rfl, e1.symm, ?_, Fr.rf.pt (by decide)⟩
                  rw [sI_row]; exact e2.symm
              · refine wp_iload_n dX8_mark_75 rfl rfl ?_
                refine wp_ldc dX8_mark_76 kRX8_246 rfl ?_
                refine wp_ldc dX8_mark_78 kRX8_247 rfl ?_
                refine wn_callS3d dX8_mark_80 rRX8_75 (Nat.le_of_ble_eq_true rfl) rfl rfl rfl (Nat.le_of_ble_eq_true rfl) rfl (c8_in) ?_
                refine wp_if_ne_b (t := 89) dX8_mark_83 rfl rfl (fun h83 => ?_) (fun h83 => ?_)
                · refine wp_aload_n dX8_mark_89 rfl rfl ?_
                  refine wn_getR dX8_mark_90 fRX8_54 o40 rfl rfl rfl ?_
                  refine wp_bipush (v := 24) dX8_mark_93 (by decide) rfl ?_
                  refine wp_iload_n dX8_mark_95 rfl rfl ?_
                  refine wp_imul dX8_mark_96 rfl ?_
                  refine wp_iload_n dX8_mark_97 rfl rfl ?_
                  refine wp_iadd dX8_mark_98 rfl ?_
                  refine wp_aload_n dX8_mark_99 rfl rfl ?_
                  refine wn_getR dX8_mark_100 fRX8_48 o40 rfl rfl rfl ?_
                  refine wp_iload_n dX8_mark_103 rfl rfl ?_
                  refine wn_iald dX8_mark_104 (o41 12 rfl) rfl (nIx rfl (by omega)) (show a < 4 from ha) rfl ?_
                  refine wp_if_ne (t := 113) dX8_mark_105 rfl rfl (fun h105 => ?_) (fun h105 => ?_)
                  · refine wp_iload_n dX8_mark_113 rfl rfl ?_
                    refine wn_iast dX8_mark_114 (o41 14 rfl) rfl (nIx ix_24 (by omega)) (by show _ < 96; omega) rfl ?_
                    refine wp_iconst (v := 1) dX8_mark_115 (by decide) rfl ?_
                    refine wp_iret dX8_mark_116 rfl rfl ?_
                    have hg : mkG ((s.1 (41, 12, 0)) a) ((s.1 (41, 13, 0)) a) (nI k) v = 1 := by unfold mkG; rw [if_neg (Int32.not_lt.mpr h16), if_neg (fun z => z h35), if_neg (fun z => h53 z.2), if_neg (fun z => z.2.2 h83)]
                    obtain ⟨e1, e2⟩ := mk_y (so := (s.1 (41, 12, 0))) (si := (s.1 (41, 13, 0))) (ce := (s.1 (41, 14, 0))) ha (by omega) h4 hg
                    rw [show mkV ((s.1 (41, 12, 0)) a) v = v from if_neg h105] at e2
                    refine ⟨_, _, rfl, rfl, e1.symm, ?_, Fr.rf.pt (by decide)⟩
                    rw [sI_row]; exact e2.symm
                  · refine wp_iload_n dX8_mark_108 rfl rfl ?_
                    refine wp_i2s dX8_mark_109 rfl ?_
                    refine wp_goto (t := 114) dX8_mark_110 rfl ?_
                    refine wn_iast dX8_mark_114 (o41 14 rfl) rfl (nIx ix_24 (by omega)) (by show _ < 96; omega) rfl ?_
                    refine wp_iconst (v := 1) dX8_mark_115 (by decide) rfl ?_
                    refine wp_iret dX8_mark_116 rfl rfl ?_
                    have hg : mkG ((s.1 (41, 12, 0)) a) ((s.1 (41, 13, 0)) a) (nI k) v = 1 := by unfold mkG; rw [if_neg (Int32.not_lt.mpr h16), if_neg (fun z => z h35), if_neg (fun z => h53 z.2), if_neg (fun z => z.2.2 h83)]
                    obtain ⟨e1, e2⟩ := mk_y (so := (s.1 (41, 12, 0))) (si := (s.1 (41, 13, 0))) (ce := (s.1 (41, 14, 0))) ha (by omega) h4 hg
                    rw [show mkV ((s.1 (41, 12, 0)) a) v = i16 v from if_pos h105] at e2
                    refine ⟨_, _, rfl, rfl, e1.symm, ?_, Fr.rf.pt (by decide)⟩
                    rw [sI_row]; exact e2.symm
                · refine wp_ldc dX8_mark_86 kRX8_83 rfl ?_
                  refine wp_iret dX8_mark_88 rfl rfl ?_
                  have hg : mkG ((s.1 (41, 12, 0)) a) ((s.1 (41, 13, 0)) a) (nI k) v = -1000000001 := by unfold mkG; rw [if_neg (Int32.not_lt.mpr h16), if_neg (fun z => z h35), if_neg (fun z => h53 z.2), if_pos ⟨h66, h72, h83⟩]
                  obtain ⟨e1, e2⟩ := mk_g (so := (s.1 (41, 12, 0))) (si := (s.1 (41, 13, 0))) (ce := (s.1 (41, 14, 0))) ha h4 hg (by decide)
                  exact ⟨_, _, rfl, rfl, e1.symm, e2.symm, Fr.rf⟩
          · refine wp_ldc dX8_mark_56 kRX8_120 rfl ?_
            refine wp_iret dX8_mark_58 rfl rfl ?_
            have hg : mkG ((s.1 (41, 12, 0)) a) ((s.1 (41, 13, 0)) a) (nI k) v = -1000000012 := by unfold mkG; rw [if_neg (Int32.not_lt.mpr h16), if_neg (fun z => z h35), if_pos ⟨h47, h53⟩]
            obtain ⟨e1, e2⟩ := mk_g (so := (s.1 (41, 12, 0))) (si := (s.1 (41, 13, 0))) (ce := (s.1 (41, 14, 0))) ha h4 hg (by decide)
            exact ⟨_, _, rfl, rfl, e1.symm, e2.symm, Fr.rf⟩
      · refine wp_ldc dX8_mark_38 kRX8_245 rfl ?_
        refine wp_iret dX8_mark_40 rfl rfl ?_
        have hg : mkG ((s.1 (41, 12, 0)) a) ((s.1 (41, 13, 0)) a) p v = -1000000013 := by unfold mkG; rw [if_neg (Int32.not_lt.mpr h16), if_pos h35]
        obtain ⟨e1, e2⟩ := mk_g (so := (s.1 (41, 12, 0))) (si := (s.1 (41, 13, 0))) (ce := (s.1 (41, 14, 0))) ha h4 hg (by decide)
        exact ⟨_, _, rfl, rfl, e1.symm, e2.symm, Fr.rf⟩
    · refine wp_ldc dX8_mark_19 kRX8_171 rfl ?_
      refine wp_iret dX8_mark_21 rfl rfl ?_
      have hg : mkG ((s.1 (41, 12, 0)) a) ((s.1 (41, 13, 0)) a) p v = -1000000011 := by unfold mkG; rw [if_pos (Int32.not_le.mp h16)]
      obtain ⟨e1, e2⟩ := mk_g (so := (s.1 (41, 12, 0))) (si := (s.1 (41, 13, 0))) (ce := (s.1 (41, 14, 0))) ha h4 hg (by decide)
      exact ⟨_, _, rfl, rfl, e1.symm, e2.symm, Fr.rf⟩
  · refine wp_ldc dX8_mark_7 kRX8_83 rfl ?_
    refine wp_iret dX8_mark_9 rfl rfl ?_
    obtain ⟨e1, e2⟩ := mk_no (so := (s.1 (41, 12, 0))) (si := (s.1 (41, 13, 0))) (ce := (s.1 (41, 14, 0))) (p := p) (v := v) h4
    exact ⟨_, _, rfl, rfl, e1.symm, e2.symm, Fr.rf⟩
theorem SH.mk {s : Sn} {so si ce : Fl} {k : Nat} {v : Int32} (h : SH s so si ce) (ha : a < 4) (hk : k < 24) : SH (sI s (29, a, 0) k v) so si (upd ce (24 * a + k) v) := fun b hb => by
  obtain ⟨p1, p2, p3⟩ := h b hb
  rw [sI_nt (by decide)]
  refine ⟨p1, p2, fun q hq => ?_⟩
  by_cases e : b = a
  · subst e
    rw [sI_row]
    by_cases e2 : q = k
    · subst e2; rw [upd_eq, upd_eq]
    · rw [upd_ne e2, upd_ne (by omega)]; exact p3 q hq
  · rw [sI_ni e, upd_ne (by omega)]; exact p3 q hq
theorem c7_mark {s : Sn} {so si ce : Fl} {x p v : Int32} (h : SH s so si ce) (hQ : SQ so si) : Ca (d + 2) MX7_mark [vR 10 0 0, vI x, vI p, vI v] (hN s) (Pv fun z t => z = mkA so si x p v ∧ SH t so si (mkC so si ce x p v) ∧ FQ XS s t) := by
  change Wp _ _ 0 [some _, some _, some _, some _, none] [] _ _
  refine wp_iload_n dX7_mark_0 rfl rfl ?_
  refine wn_callS1d dX7_mark_1 rRX7_204 (Nat.le_of_ble_eq_true rfl) rfl (Nat.le_of_ble_eq_true rfl) rfl (c7_isSheet) ?_
  refine wp_if_ne_b (t := 10) dX7_mark_4 rfl rfl (fun h4 => ?_) (fun h4 => ?_)
  · obtain ⟨a, ha, rfl⟩ := sht h4
    obtain ⟨hs, n, hn, hsi⟩ := hQ a ha
    refine wp_aload_n dX7_mark_10 rfl rfl ?_
    refine wn_getR dX7_mark_11 fRX7_34 o10 rfl rfl rfl ?_
    refine wp_iload_n dX7_mark_14 rfl rfl ?_
    refine wn_aald25 dX7_mark_15 (nIx rfl (by omega)) ha rfl ?_
    refine wp_astore (l' := [_, _, _, _, some _]) dX7_mark_16 rfl rfl ?_
    refine wp_aload dX7_mark_18 rfl rfl ?_
    refine wn_callV0d dX7_mark_20 rRX7_207 (rcv_of (o28 ha) rfl) (Nat.le_of_ble_eq_true rfl)  (Nat.le_of_ble_eq_true rfl) rfl (c4_isMissing ha) ?_
    rw [(h a ha).1]
    refine wp_if_eq_b (t := 29) dX7_mark_23 rfl rfl (fun h23 => ?_) (fun h23 => ?_)
    · have hs0 : ¬ so a < 0 := fun z => hs.elim h23 (fun e => e.elim (fun e => absurd (e ▸ z) (by decide)) (fun e => absurd (e ▸ z) (by decide)))
      refine wp_aload dX7_mark_29 rfl rfl ?_
      refine wp_iload_n dX7_mark_31 rfl rfl ?_
      refine wn_callV1d dX7_mark_32 rRX7_265 (rcv_of (o28 ha) rfl) (Nat.le_of_ble_eq_true rfl) rfl (Nat.le_of_ble_eq_true rfl) rfl (c4_hasPlace ha) ?_
      rw [(h a ha).2.1]
      refine wp_if_ne_b (t := 42) dX7_mark_35 rfl rfl (fun h35 => ?_) (fun h35 => ?_)
      · have hp := (plc2 hn hsi).mp h35
        obtain ⟨k, hk, rfl⟩ := plc hn hsi hp
        refine wp_aload dX7_mark_42 rfl rfl ?_
        refine wn_getI dX7_mark_44 fRX7_269 (o28 ha) rfl rfl ?_
        rw [(h a ha).1]
        refine wp_if_ne (t := 70) dX7_mark_47 rfl rfl (fun h47 => ?_) (fun h47 => ?_)
        · have hs1 : so a = 1 := hs.elim (fun e => absurd e h23) (fun e => e.elim (fun e => absurd e h47) id)
          refine wp_iload_n dX7_mark_70 rfl rfl ?_
          refine wp_ldc dX7_mark_71 kRX7_192 rfl ?_
          refine wp_icmp_eq (t := 92) dX7_mark_73 rfl rfl (fun h73 => ?_) (fun h73 => ?_)
          · refine wp_aload dX7_mark_92 rfl rfl ?_
            refine wn_getR dX7_mark_94 fRX7_272 (o28 ha) rfl rfl rfl ?_
            refine wp_iload_n dX7_mark_97 rfl rfl ?_
            refine wp_iload_n dX7_mark_98 rfl rfl ?_
            refine wn_iast dX7_mark_99 (o29 ha) rfl (nIx rfl (by omega)) (show k < 24 by omega) rfl ?_
            refine wp_iconst (v := 1) dX7_mark_100 (by decide) rfl ?_
            refine wp_iret dX7_mark_101 rfl rfl ?_
            have hg : mkG (so a) (si a) (nI k) v = 1 := by unfold mkG; rw [if_neg hs0, if_neg (fun z => z hp), if_neg (fun z => h47 z.1), if_neg (fun z => z.2.1 h73)]
            obtain ⟨e1, e2⟩ := mk_y (so := so) (si := si) (ce := ce) ha (by omega) h4 hg
            rw [show mkV (so a) v = v from if_neg h47] at e2
            exact ⟨_, _, rfl, rfl, e1.symm, by rw [e2]; exact h.mk ha (by omega), FQ.rf.pt (Or.inr rfl)⟩
          · refine wp_iload_n dX7_mark_76 rfl rfl ?_
            refine wp_ldcw dX7_mark_77 kRX7_275 rfl ?_
            refine wp_ldcw dX7_mark_80 kRX7_276 rfl ?_
            refine wn_callS3d dX7_mark_83 rRX7_128 (Nat.le_of_ble_eq_true rfl) rfl rfl rfl (Nat.le_of_ble_eq_true rfl) rfl (c7_within) ?_
            refine wp_if_ne_b (t := 92) dX7_mark_86 rfl rfl (fun h86 => ?_) (fun h86 => ?_)
            · refine wp_aload dX7_mark_92 rfl rfl ?_
              refine wn_getR dX7_mark_94 fRX7_272 (o28 ha) rfl rfl rfl ?_
              refine wp_iload_n dX7_mark_97 rfl rfl ?_
              refine wp_iload_n dX7_mark_98 rfl rfl ?_
              refine wn_iast dX7_mark_99 (o29 ha) rfl (nIx rfl (by omega)) (show k < 24 by omega) rfl ?_
              refine wp_iconst (v := 1) dX7_mark_100 (by decide) rfl ?_
              refine wp_iret dX7_mark_101 rfl rfl ?_
              have hg : mkG (so a) (si a) (nI k) v = 1 := by unfold mkG; rw [if_neg hs0, if_neg (fun z => z hp), if_neg (fun z => h47 z.1), if_neg (fun z => z.2.2 h86)]
              obtain ⟨e1, e2⟩ := mk_y (so := so) (si := si) (ce := ce) ha (by omega) h4 hg
              rw [show mkV (so a) v = v from if_neg h47] at e2
              exact ⟨_, _, rfl, rfl, e1.symm, by rw [e2]; exact h.mk ha (by omega), FQ.rf.pt (Or.inr rfl)⟩
            · refine wp_ldc dX7_mark_89 kRX7_68 rfl ?_
              refine wp_iret dX7_mark_91 rfl rfl ?_
              have hg : mkG (so a) (si a) (nI k) v = -1000000001 := by unfold mkG; rw [if_neg hs0, if_neg (fun z => z hp), if_neg (fun z => h47 z.1), if_pos ⟨hs1, h73, h86⟩]
              obtain ⟨e1, e2⟩ := mk_g (so := so) (si := si) (ce := ce) ha h4 hg (by decide)
              exact ⟨_, _, rfl, rfl, e1.symm, by rw [e2]; exact h, FQ.rf⟩
        · refine wp_iload_n dX7_mark_50 rfl rfl ?_
          refine wp_ldc dX7_mark_51 kRX7_192 rfl ?_
          refine wp_icmp_ne (t := 59) dX7_mark_53 rfl rfl (fun h53 => ?_) (fun h53 => ?_)
          · refine wp_aload dX7_mark_59 rfl rfl ?_
            refine wn_getR dX7_mark_61 fRX7_272 (o28 ha) rfl rfl rfl ?_
            refine wp_iload_n dX7_mark_64 rfl rfl ?_
            refine wp_iload_n dX7_mark_65 rfl rfl ?_
            refine wp_i2s dX7_mark_66 rfl ?_
            refine wn_iast dX7_mark_67 (o29 ha) rfl (nIx rfl (by omega)) (show k < 24 by omega) rfl ?_
            refine wp_iconst (v := 1) dX7_mark_68 (by decide) rfl ?_
            refine wp_iret dX7_mark_69 rfl rfl ?_
            have hg : mkG (so a) (si a) (nI k) v = 1 := by unfold mkG; rw [if_neg hs0, if_neg (fun z => z hp), if_neg (fun z => h53 z.2), if_neg (fun z => absurd (h47.symm.trans z.1) (by decide))]
            obtain ⟨e1, e2⟩ := mk_y (so := so) (si := si) (ce := ce) ha (by omega) h4 hg
            rw [show mkV (so a) v = i16 v from if_pos h47] at e2
            exact ⟨_, _, rfl, rfl, e1.symm, by rw [e2]; exact h.mk ha (by omega), FQ.rf.pt (Or.inr rfl)⟩
          · refine wp_ldc dX7_mark_56 kRX7_123 rfl ?_
            refine wp_iret dX7_mark_58 rfl rfl ?_
            have hg : mkG (so a) (si a) (nI k) v = -1000000012 := by unfold mkG; rw [if_neg hs0, if_neg (fun z => z hp), if_pos ⟨h47, h53⟩]
            obtain ⟨e1, e2⟩ := mk_g (so := so) (si := si) (ce := ce) ha h4 hg (by decide)
            exact ⟨_, _, rfl, rfl, e1.symm, by rw [e2]; exact h, FQ.rf⟩
      · refine wp_ldcw dX7_mark_38 kRX7_268 rfl ?_
        refine wp_iret dX7_mark_41 rfl rfl ?_
        have hg : mkG (so a) (si a) p v = -1000000013 := by unfold mkG; rw [if_neg hs0, if_pos (fun z => h35 ((plc2 hn hsi).mpr z))]
        obtain ⟨e1, e2⟩ := mk_g (so := so) (si := si) (ce := ce) ha h4 hg (by decide)
        exact ⟨_, _, rfl, rfl, e1.symm, by rw [e2]; exact h, FQ.rf⟩
    · refine wp_ldc dX7_mark_26 kRX7_210 rfl ?_
      refine wp_iret dX7_mark_28 rfl rfl ?_
      have hg : mkG (so a) (si a) p v = -1000000011 := by unfold mkG; rw [if_pos (by rw [h23]; decide)]
      obtain ⟨e1, e2⟩ := mk_g (so := so) (si := si) (ce := ce) ha h4 hg (by decide)
      exact ⟨_, _, rfl, rfl, e1.symm, by rw [e2]; exact h, FQ.rf⟩
  · refine wp_ldc dX7_mark_7 kRX7_68 rfl ?_
    refine wp_iret dX7_mark_9 rfl rfl ?_
    obtain ⟨e1, e2⟩ := mk_no (so := so) (si := si) (ce := ce) (p := p) (v := v) h4
    exact ⟨_, _, rfl, rfl, e1.symm, by rw [e2]; exact h, FQ.rf⟩
end
