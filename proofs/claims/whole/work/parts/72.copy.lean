/-! THE PURE PART, 53: copy -/
section
variable {d i j a b : Nat}
theorem le_sub {p n m : Nat} (hp : p < 2 ^ 31) (hn : n ≤ 24) (hm : m < 2 ^ 31) : nI p ≤ nI n - nI m ↔ p + m ≤ n := by
  rw [Int32.le_iff_toInt_le, Int32.toInt_sub, nI_toInt hp, nI_toInt (by omega), nI_toInt hm]
  unfold Int.bmod
  dsimp only
  split <;> omega
def cpk (ce : Fl) (S D k : Nat) : Fl := fun j => if D ≤ j ∧ j < D + k then ce (S + (j - D)) else ce j
theorem cpk_0 {ce : Fl} {S D : Nat} : cpk ce S D 0 = ce := by
  funext q
  exact if_neg (by omega)
theorem cpk_s {ce : Fl} {S D k : Nat} : upd (cpk ce S D k) (D + k) (ce (S + k)) = cpk ce S D (k + 1) := by
  funext q
  by_cases e : q = D + k
  · rw [e, upd_eq]
    refine ((if_pos (by omega)).trans ?_).symm
    rw [show S + (D + k - D) = S + k by omega]
  · rw [upd_ne e]
    show (if D ≤ q ∧ q < D + k then ce (S + (q - D)) else ce q) = if D ≤ q ∧ q < D + (k + 1) then ce (S + (q - D)) else ce q
    by_cases e2 : D ≤ q ∧ q < D + k
    · rw [if_pos e2, if_pos (by omega)]
    · rw [if_neg e2, if_neg (by omega)]
abbrev cyK (sx sy p q m : Int32) : Prop := ¬ p < 0 ∧ ¬ q < 0 ∧ ¬ m < 0 ∧ p ≤ sx - m ∧ q ≤ sy - m
abbrev cyX (x y : Int32) : Prop := (0 ≤ x ∧ x ≤ 3) ∧ (0 ≤ y ∧ y ≤ 3)
def cyG (ox oy sx sy p q m : Int32) : Int32 := if ox < 0 ∨ oy < 0 then -1000000011 else if ¬ ox = oy then -1000000012 else if cyK sx sy p q m then m else -1000000013
def cyA (so si : Fl) (x p y q m : Int32) : Int32 := if cyX x y then cyG (so x.toNatClampNeg) (so y.toNatClampNeg) (si x.toNatClampNeg) (si y.toNatClampNeg) p q m else -1000000001
def cyC (so si ce : Fl) (x p y q m : Int32) : Fl := if cyX x y ∧ ¬ (so x.toNatClampNeg < 0 ∨ so y.toNatClampNeg < 0) ∧ so x.toNatClampNeg = so y.toNatClampNeg ∧ cyK (si x.toNatClampNeg) (si y.toNatClampNeg) p q m then cpk ce (24 * x.toNatClampNeg + p.toNatClampNeg) (24 * y.toNatClampNeg + q.toNatClampNeg) m.toNatClampNeg else ce
theorem cy_no {so si ce : Fl} {x p y q m : Int32} (h : ¬ cyX x y) : cyA so si x p y q m = -1000000001 ∧ cyC so si ce x p y q m = ce := ⟨if_neg h, if_neg (fun z => h z.1)⟩
theorem cy_n {so si ce : Fl} {p q m : Int32} (ha : a < 4) (hb : b < 4) (hx : cyX (nI a) (nI b)) (h : so a < 0 ∨ so b < 0) : cyA so si (nI a) p (nI b) q m = -1000000011 ∧ cyC so si ce (nI a) p (nI b) q m = ce := by
  unfold cyA cyC cyG
  simp only [nI_clamp (show a < 2 ^ 31 by omega), nI_clamp (show b < 2 ^ 31 by omega)]
  rw [if_pos hx, if_pos h, if_neg (fun z => z.2.1 h)]
  exact ⟨rfl, rfl⟩
theorem cy_k {so si ce : Fl} {p q m : Int32} (ha : a < 4) (hb : b < 4) (hx : cyX (nI a) (nI b)) (h : ¬ (so a < 0 ∨ so b < 0)) (h2 : ¬ so a = so b) : cyA so si (nI a) p (nI b) q m = -1000000012 ∧ cyC so si ce (nI a) p (nI b) q m = ce := by
  unfold cyA cyC cyG
  simp only [nI_clamp (show a < 2 ^ 31 by omega), nI_clamp (show b < 2 ^ 31 by omega)]
  rw [if_pos hx, if_neg h, if_pos h2, if_neg (fun z => h2 z.2.2.1)]
  exact ⟨rfl, rfl⟩
theorem cy_i {so si ce : Fl} {p q m : Int32} (ha : a < 4) (hb : b < 4) (hx : cyX (nI a) (nI b)) (h : ¬ (so a < 0 ∨ so b < 0)) (h2 : so a = so b) (h3 : ¬ cyK (si a) (si b) p q m) : cyA so si (nI a) p (nI b) q m = -1000000013 ∧ cyC so si ce (nI a) p (nI b) q m = ce := by
  unfold cyA cyC cyG
  simp only [nI_clamp (show a < 2 ^ 31 by omega), nI_clamp (show b < 2 ^ 31 by omega)]
  rw [if_pos hx, if_neg h, if_neg (fun z => z h2), if_neg h3, if_neg (fun z => h3 z.2.2.2)]
  exact ⟨rfl, rfl⟩
theorem cy_y {so si ce : Fl} {P Q N : Nat} (ha : a < 4) (hb : b < 4) (hx : cyX (nI a) (nI b)) (h : ¬ (so a < 0 ∨ so b < 0)) (h2 : so a = so b) (h3 : cyK (si a) (si b) (nI P) (nI Q) (nI N)) (hP : P < 2 ^ 31) (hQ : Q < 2 ^ 31) (hN : N < 2 ^ 31) : cyA so si (nI a) (nI P) (nI b) (nI Q) (nI N) = nI N ∧ cyC so si ce (nI a) (nI P) (nI b) (nI Q) (nI N) = cpk ce (24 * a + P) (24 * b + Q) N := by
  unfold cyA cyC cyG
  simp only [nI_clamp (show a < 2 ^ 31 by omega), nI_clamp (show b < 2 ^ 31 by omega), nI_clamp hP, nI_clamp hQ, nI_clamp hN]
  rw [if_pos hx, if_neg h, if_neg (fun z => z h2), if_pos h3, if_pos ⟨hx, h, h2, h3⟩]
  exact ⟨rfl, rfl⟩
theorem cyK_n {n n2 : Nat} {p q m : Int32} (hn : n ≤ 24) (hn2 : n2 ≤ 24) (h : cyK (nI n) (nI n2) p q m) : ∃ P Q N, p = nI P ∧ q = nI Q ∧ m = nI N ∧ P + N ≤ n ∧ Q + N ≤ n2 := by
  obtain ⟨h1, h2, h3, h4, h5⟩ := h
  obtain ⟨P, hP, rfl⟩ := nI_of h1
  obtain ⟨Q, hQ, rfl⟩ := nI_of h2
  obtain ⟨N, hN, rfl⟩ := nI_of h3
  exact ⟨P, Q, N, rfl, rfl, rfl, (le_sub hP hn hN).mp h4, (le_sub hQ hn2 hN).mp h5⟩
theorem ix_24p {P k : Nat} : (24 : Int32) * nI a + nI P + nI k = nI (24 * a + P + k) := by rw [ix_24, nI_add]
theorem l8_cp1 {s : Sn} {P Q N : Nat} {PP : Option Av → St → Prop} (ha : a < 4) (hb : b < 4) (hP : P + N ≤ 24) (hQ : Q + N ≤ 24) (kk : ∀ s2 : Sn, (∀ q, q < N → s2.1 (41, 19, 0) q = (s.1 (41, 14, 0)) (24 * a + P + q)) → Fr [(41, 19, 0)] s s2 → Wp (d + 2) MX8_copy 137 [some (vR 40 0 0), some (vI (nI a)), some (vI (nI P)), some (vI (nI b)), some (vI (nI Q)), some (vI (nI N)), some (vI (nI N))] [] (hN s2) PP) : ∀ k, k ≤ N → ∀ s1 : Sn, (∀ q, q < k → s1.1 (41, 19, 0) q = (s.1 (41, 14, 0)) (24 * a + P + q)) → Fr [(41, 19, 0)] s s1 → Wp (d + 2) MX8_copy 103 [some (vR 40 0 0), some (vI (nI a)), some (vI (nI P)), some (vI (nI b)), some (vI (nI Q)), some (vI (nI N)), some (vI (nI k))] [] (hN s1) PP := by
  refine ind_up (fun k hk ih => ?_)
  intro s1 hq hF
  refine wp_iload dX8_copy_103 rfl rfl ?_
  refine wp_iload dX8_copy_105 rfl rfl ?_
  refine wp_icmp_ge (t := 137) dX8_copy_107 rfl rfl (fun h107 => ?_) (fun h107 => ?_)
  · have hk2 : k = N := by have := (nI_leI (by omega) (by omega)).mp h107; omega
    subst hk2
    exact kk s1 hq hF
  · have hl : k < N := by have := mt (nI_leI (by omega) (by omega)).mpr h107; omega
    refine wp_aload_n dX8_copy_110 rfl rfl ?_
    refine wn_getR dX8_copy_111 fRX8_69 o40 rfl rfl rfl ?_
    refine wp_iload dX8_copy_114 rfl rfl ?_
    refine wp_aload_n dX8_copy_116 rfl rfl ?_
    refine wn_getR dX8_copy_117 fRX8_54 o40 rfl rfl rfl ?_
    refine wp_bipush (v := 24) dX8_copy_120 (by decide) rfl ?_
    refine wp_iload_n dX8_copy_122 rfl rfl ?_
    refine wp_imul dX8_copy_123 rfl ?_
    refine wp_iload_n dX8_copy_124 rfl rfl ?_
    refine wp_iadd dX8_copy_125 rfl ?_
    refine wp_iload dX8_copy_126 rfl rfl ?_
    refine wp_iadd dX8_copy_128 rfl ?_
    refine wn_iald dX8_copy_129 (o41 14 rfl) rfl (nIx ix_24p (by omega)) (by show _ < 96; omega) rfl ?_
    rw [hF.1 (41, 14, 0) (by decide)]
    refine wn_iast dX8_copy_130 (o41 19 rfl) rfl (nIx rfl (by omega)) (show k < 24 by omega) rfl ?_
    refine wp_iinc (l' := [_, _, _, _, _, _, some _]) (v := 1) dX8_copy_131 rfl (by decide) rfl rfl ?_
    refine wp_goto (t := 103) dX8_copy_134 rfl ?_
    rw [nI_1]
    refine ih hl _ (fun q hq2 => ?_) (hF.pt (by decide))
    rw [sI_row]
    by_cases e : q = k
    · rw [e, upd_eq]
    · rw [upd_ne e]; exact hq q (by omega)
theorem l8_cp2 {s0 s : Sn} {P Q N : Nat} (ha : a < 4) (hb : b < 4) (hP : P + N ≤ 24) (hQ : Q + N ≤ 24) (hm : ∀ q, q < N → s.1 (41, 19, 0) q = (s.1 (41, 14, 0)) (24 * a + P + q)) (hF0 : Fr [(41, 14, 0), (41, 19, 0)] s0 s) : ∀ k, k ≤ N → ∀ s1 : Sn, s1.1 (41, 14, 0) = cpk (s.1 (41, 14, 0)) (24 * a + P) (24 * b + Q) k → Fr [(41, 14, 0)] s s1 → Wp (d + 2) MX8_copy 140 [some (vR 40 0 0), some (vI (nI a)), some (vI (nI P)), some (vI (nI b)), some (vI (nI Q)), some (vI (nI N)), some (vI (nI k))] [] (hN s1) (Pv fun z t => z = nI N ∧ t.1 (41, 14, 0) = cpk (s.1 (41, 14, 0)) (24 * a + P) (24 * b + Q) N ∧ Fr [(41, 14, 0), (41, 19, 0)] s0 t) := by
  refine ind_up (fun k hk ih => ?_)
  intro s1 e1 hF
  refine wp_iload dX8_copy_140 rfl rfl ?_
  refine wp_iload dX8_copy_142 rfl rfl ?_
  refine wp_icmp_ge (t := 175) dX8_copy_144 rfl rfl (fun h144 => ?_) (fun h144 => ?_)
  · have hk2 : k = N := by have := (nI_leI (by omega) (by omega)).mp h144; omega
    subst hk2
    refine wp_iload dX8_copy_175 rfl rfl ?_
    refine wp_iret dX8_copy_177 rfl rfl ?_
    exact ⟨_, _, rfl, rfl, rfl, e1, hF0.tr (hF.wd (by decide))⟩
  · have hl : k < N := by have := mt (nI_leI (by omega) (by omega)).mpr h144; omega
    refine wp_aload_n dX8_copy_147 rfl rfl ?_
    refine wn_getR dX8_copy_148 fRX8_54 o40 rfl rfl rfl ?_
    refine wp_bipush (v := 24) dX8_copy_151 (by decide) rfl ?_
    refine wp_iload_n dX8_copy_153 rfl rfl ?_
    refine wp_imul dX8_copy_154 rfl ?_
    refine wp_iload dX8_copy_155 rfl rfl ?_
    refine wp_iadd dX8_copy_157 rfl ?_
    refine wp_iload dX8_copy_158 rfl rfl ?_
    refine wp_iadd dX8_copy_160 rfl ?_
    refine wp_aload_n dX8_copy_161 rfl rfl ?_
    refine wn_getR dX8_copy_162 fRX8_69 o40 rfl rfl rfl ?_
    refine wp_iload dX8_copy_165 rfl rfl ?_
    refine wn_iald dX8_copy_167 (o41 19 rfl) rfl (nIx rfl (by omega)) (show k < 24 by omega) rfl ?_
    rw [hF.1 (41, 19, 0) (by decide), hm k hl]
    refine wn_iast dX8_copy_168 (o41 14 rfl) rfl (nIx ix_24p (by omega)) (by show _ < 96; omega) rfl ?_
    refine wp_iinc (l' := [_, _, _, _, _, _, some _]) (v := 1) dX8_copy_169 rfl (by decide) rfl rfl ?_
    refine wp_goto (t := 140) dX8_copy_172 rfl ?_
    rw [nI_1]
    exact ih hl _ (by rw [sI_row, e1, cpk_s]) (hF.pt (by decide))
theorem c8_copy {s : Sn} {x p y q m : Int32} (hQ : SQ (s.1 (41, 12, 0)) (s.1 (41, 13, 0))) : Ca (d + 2) MX8_copy [vR 40 0 0, vI x, vI p, vI y, vI q, vI m] (hN s) (Pv fun z t => z = cyA (s.1 (41, 12, 0)) (s.1 (41, 13, 0)) x p y q m ∧ t.1 (41, 14, 0) = cyC (s.1 (41, 12, 0)) (s.1 (41, 13, 0)) (s.1 (41, 14, 0)) x p y q m ∧ Fr [(41, 14, 0), (41, 19, 0)] s t) := by
  change Wp _ _ 0 [some _, some _, some _, some _, some _, some _, none] [] _ _
  refine wp_iload_n dX8_copy_0 rfl rfl ?_
  refine wn_callS1d dX8_copy_1 rRX8_168 (Nat.le_of_ble_eq_true rfl) rfl (Nat.le_of_ble_eq_true rfl) rfl (c8_isSheet) ?_
  refine wp_if_eq_b (t := 14) dX8_copy_4 rfl rfl (fun h4 => ?_) (fun h4 => ?_)
  · refine wp_ldc dX8_copy_14 kRX8_83 rfl ?_
    refine wp_iret dX8_copy_16 rfl rfl ?_
    obtain ⟨e1, e2⟩ := cy_no (so := (s.1 (41, 12, 0))) (si := (s.1 (41, 13, 0))) (ce := (s.1 (41, 14, 0))) (x := x) (p := p) (y := y) (q := q) (m := m) (fun z => h4 z.1)
    exact ⟨_, _, rfl, rfl, e1.symm, e2.symm, Fr.rf⟩
  · refine wp_iload_n dX8_copy_7 rfl rfl ?_
    refine wn_callS1d dX8_copy_8 rRX8_168 (Nat.le_of_ble_eq_true rfl) rfl (Nat.le_of_ble_eq_true rfl) rfl (c8_isSheet) ?_
    refine wp_if_ne_b (t := 17) dX8_copy_11 rfl rfl (fun h11 => ?_) (fun h11 => ?_)
    · obtain ⟨a, ha, rfl⟩ := sht h4
      obtain ⟨b, hb, rfl⟩ := sht h11
      obtain ⟨_, n, hn, hsn⟩ := hQ a ha
      obtain ⟨_, n2, hn2, hsn2⟩ := hQ b hb
      refine wp_aload_n dX8_copy_17 rfl rfl ?_
      refine wn_getR dX8_copy_18 fRX8_48 o40 rfl rfl rfl ?_
      refine wp_iload_n dX8_copy_21 rfl rfl ?_
      refine wn_iald dX8_copy_22 (o41 12 rfl) rfl (nIx rfl (by omega)) (show a < 4 from ha) rfl ?_
      refine wp_if_lt (t := 35) dX8_copy_23 rfl rfl (fun h23 => ?_) (fun h23 => ?_)
      · refine wp_ldc dX8_copy_35 kRX8_171 rfl ?_
        refine wp_iret dX8_copy_37 rfl rfl ?_
        obtain ⟨e1, e2⟩ := cy_n (so := (s.1 (41, 12, 0))) (si := (s.1 (41, 13, 0))) (ce := (s.1 (41, 14, 0))) (p := p) (q := q) (m := m) ha hb ⟨h4, h11⟩ (Or.inl h23)
        exact ⟨_, _, rfl, rfl, e1.symm, e2.symm, Fr.rf⟩
      · refine wp_aload_n dX8_copy_26 rfl rfl ?_
        refine wn_getR dX8_copy_27 fRX8_48 o40 rfl rfl rfl ?_
        refine wp_iload_n dX8_copy_30 rfl rfl ?_
        refine wn_iald dX8_copy_31 (o41 12 rfl) rfl (nIx rfl (by omega)) (show b < 4 from hb) rfl ?_
        refine wp_if_ge (t := 38) dX8_copy_32 rfl rfl (fun h32 => ?_) (fun h32 => ?_)
        · have hs : ¬ ((s.1 (41, 12, 0)) a < 0 ∨ (s.1 (41, 12, 0)) b < 0) := fun z => z.elim h23 (Int32.not_lt.mpr h32)
          refine wp_aload_n dX8_copy_38 rfl rfl ?_
          refine wn_getR dX8_copy_39 fRX8_48 o40 rfl rfl rfl ?_
          refine wp_iload_n dX8_copy_42 rfl rfl ?_
          refine wn_iald dX8_copy_43 (o41 12 rfl) rfl (nIx rfl (by omega)) (show a < 4 from ha) rfl ?_
          refine wp_aload_n dX8_copy_44 rfl rfl ?_
          refine wn_getR dX8_copy_45 fRX8_48 o40 rfl rfl rfl ?_
          refine wp_iload_n dX8_copy_48 rfl rfl ?_
          refine wn_iald dX8_copy_49 (o41 12 rfl) rfl (nIx rfl (by omega)) (show b < 4 from hb) rfl ?_
          refine wp_icmp_eq (t := 56) dX8_copy_50 rfl rfl (fun h50 => ?_) (fun h50 => ?_)
          · refine wp_iload_n dX8_copy_56 rfl rfl ?_
            refine wp_if_lt (t := 97) dX8_copy_57 rfl rfl (fun h57 => ?_) (fun h57 => ?_)
            · refine wp_ldc dX8_copy_97 kRX8_245 rfl ?_
              refine wp_iret dX8_copy_99 rfl rfl ?_
              obtain ⟨e1, e2⟩ := cy_i (so := (s.1 (41, 12, 0))) (si := (s.1 (41, 13, 0))) (ce := (s.1 (41, 14, 0))) (p := p) (q := q) (m := m) ha hb ⟨h4, h11⟩ hs h50 (fun z => z.1 h57)
              exact ⟨_, _, rfl, rfl, e1.symm, e2.symm, Fr.rf⟩
            · refine wp_iload dX8_copy_60 rfl rfl ?_
              refine wp_if_lt (t := 97) dX8_copy_62 rfl rfl (fun h62 => ?_) (fun h62 => ?_)
              · refine wp_ldc dX8_copy_97 kRX8_245 rfl ?_
                refine wp_iret dX8_copy_99 rfl rfl ?_
                obtain ⟨e1, e2⟩ := cy_i (so := (s.1 (41, 12, 0))) (si := (s.1 (41, 13, 0))) (ce := (s.1 (41, 14, 0))) (p := p) (q := q) (m := m) ha hb ⟨h4, h11⟩ hs h50 (fun z => z.2.1 h62)
                exact ⟨_, _, rfl, rfl, e1.symm, e2.symm, Fr.rf⟩
              · refine wp_iload dX8_copy_65 rfl rfl ?_
                refine wp_if_lt (t := 97) dX8_copy_67 rfl rfl (fun h67 => ?_) (fun h67 => ?_)
                · refine wp_ldc dX8_copy_97 kRX8_245 rfl ?_
                  refine wp_iret dX8_copy_99 rfl rfl ?_
                  obtain ⟨e1, e2⟩ := cy_i (so := (s.1 (41, 12, 0))) (si := (s.1 (41, 13, 0))) (ce := (s.1 (41, 14, 0))) (p := p) (q := q) (m := m) ha hb ⟨h4, h11⟩ hs h50 (fun z => z.2.2.1 h67)
                  exact ⟨_, _, rfl, rfl, e1.symm, e2.symm, Fr.rf⟩
                · refine wp_iload_n dX8_copy_70 rfl rfl ?_
                  refine wp_aload_n dX8_copy_71 rfl rfl ?_
                  refine wn_getR dX8_copy_72 fRX8_51 o40 rfl rfl rfl ?_
                  refine wp_iload_n dX8_copy_75 rfl rfl ?_
                  refine wn_iald dX8_copy_76 (o41 13 rfl) rfl (nIx rfl (by omega)) (show a < 4 from ha) rfl ?_
                  refine wp_iload dX8_copy_77 rfl rfl ?_
                  refine wp_isub dX8_copy_79 rfl ?_
                  refine wp_icmp_gt (t := 97) dX8_copy_80 rfl rfl (fun h80 => ?_) (fun h80 => ?_)
                  · refine wp_ldc dX8_copy_97 kRX8_245 rfl ?_
                    refine wp_iret dX8_copy_99 rfl rfl ?_
                    obtain ⟨e1, e2⟩ := cy_i (so := (s.1 (41, 12, 0))) (si := (s.1 (41, 13, 0))) (ce := (s.1 (41, 14, 0))) (p := p) (q := q) (m := m) ha hb ⟨h4, h11⟩ hs h50 (fun z => absurd z.2.2.2.1 (Int32.not_le.mpr h80))
                    exact ⟨_, _, rfl, rfl, e1.symm, e2.symm, Fr.rf⟩
                  · refine wp_iload dX8_copy_83 rfl rfl ?_
                    refine wp_aload_n dX8_copy_85 rfl rfl ?_
                    refine wn_getR dX8_copy_86 fRX8_51 o40 rfl rfl rfl ?_
                    refine wp_iload_n dX8_copy_89 rfl rfl ?_
                    refine wn_iald dX8_copy_90 (o41 13 rfl) rfl (nIx rfl (by omega)) (show b < 4 from hb) rfl ?_
                    refine wp_iload dX8_copy_91 rfl rfl ?_
                    refine wp_isub dX8_copy_93 rfl ?_
                    refine wp_icmp_le (t := 100) dX8_copy_94 rfl rfl (fun h94 => ?_) (fun h94 => ?_)
                    · refine wp_iconst (v := 0) dX8_copy_100 (by decide) rfl ?_
                      refine wp_istore (l' := [_, _, _, _, _, _, some _]) dX8_copy_101 rfl rfl ?_
                      have hK : cyK ((s.1 (41, 13, 0)) a) ((s.1 (41, 13, 0)) b) p q m := ⟨h57, h62, h67, Int32.not_lt.mp h80, h94⟩
                      have hK2 := hK
                      rw [hsn, hsn2] at hK2
                      obtain ⟨P, Q, N, rfl, rfl, rfl, hP, hQ2⟩ := cyK_n hn hn2 hK2
                      obtain ⟨e1, e2⟩ := cy_y (so := (s.1 (41, 12, 0))) (si := (s.1 (41, 13, 0))) (ce := (s.1 (41, 14, 0))) ha hb ⟨h4, h11⟩ hs h50 hK (by omega) (by omega) (by omega)
                      rw [e1, e2]
                      refine l8_cp1 (d := d) (s := s) ha hb (by omega) (by omega) (fun s2 hq2 hF2 => ?_) 0 (Nat.zero_le _) s (fun q hq => absurd hq (Nat.not_lt_zero q)) Fr.rf
                      refine wp_iconst (v := 0) dX8_copy_137 (by decide) rfl ?_
                      refine wp_istore (l' := [_, _, _, _, _, _, some _]) dX8_copy_138 rfl rfl ?_
                      have e14 := hF2.1 (41, 14, 0) (by decide)
                      have h := l8_cp2 (d := d) (s0 := s) (s := s2) (P := P) (Q := Q) (N := N) ha hb (by omega) (by omega) (fun q hq => by rw [e14]; exact hq2 q hq) (hF2.wd (by decide)) 0 (Nat.zero_le _) s2 (by rw [cpk_0]) Fr.rf
                      rw [e14] at h
                      exact h
                    · refine wp_ldc dX8_copy_97 kRX8_245 rfl ?_
                      refine wp_iret dX8_copy_99 rfl rfl ?_
                      obtain ⟨e1, e2⟩ := cy_i (so := (s.1 (41, 12, 0))) (si := (s.1 (41, 13, 0))) (ce := (s.1 (41, 14, 0))) (p := p) (q := q) (m := m) ha hb ⟨h4, h11⟩ hs h50 (fun z => h94 z.2.2.2.2)
                      exact ⟨_, _, rfl, rfl, e1.symm, e2.symm, Fr.rf⟩
          · refine wp_ldc dX8_copy_53 kRX8_120 rfl ?_
            refine wp_iret dX8_copy_55 rfl rfl ?_
            obtain ⟨e1, e2⟩ := cy_k (so := (s.1 (41, 12, 0))) (si := (s.1 (41, 13, 0))) (ce := (s.1 (41, 14, 0))) (p := p) (q := q) (m := m) ha hb ⟨h4, h11⟩ hs h50
            exact ⟨_, _, rfl, rfl, e1.symm, e2.symm, Fr.rf⟩
        · refine wp_ldc dX8_copy_35 kRX8_171 rfl ?_
          refine wp_iret dX8_copy_37 rfl rfl ?_
          obtain ⟨e1, e2⟩ := cy_n (so := (s.1 (41, 12, 0))) (si := (s.1 (41, 13, 0))) (ce := (s.1 (41, 14, 0))) (p := p) (q := q) (m := m) ha hb ⟨h4, h11⟩ (Or.inr (Int32.not_le.mp h32))
          exact ⟨_, _, rfl, rfl, e1.symm, e2.symm, Fr.rf⟩
    · refine wp_ldc dX8_copy_14 kRX8_83 rfl ?_
      refine wp_iret dX8_copy_16 rfl rfl ?_
      obtain ⟨e1, e2⟩ := cy_no (so := (s.1 (41, 12, 0))) (si := (s.1 (41, 13, 0))) (ce := (s.1 (41, 14, 0))) (x := x) (p := p) (y := y) (q := q) (m := m) (fun z => h11 z.2)
      exact ⟨_, _, rfl, rfl, e1.symm, e2.symm, Fr.rf⟩
theorem c4_hasPls {s : Sn} {x m : Int32} (ha : a < 4) : Ca (d + 1) MX4_hasPlaces [vR 28 a 0, vI x, vI m] (hN s) (Pd (bI ((0 ≤ x ∧ x ≤ s.1 (28, a, 0) 2) ∧ (0 ≤ m ∧ m ≤ s.1 (28, a, 0) 2 - x))) s) := by
  change Wp _ _ 0 [some _, some _, some _] [] _ _
  refine wp_iload_n dX4_hasPlaces_0 rfl rfl ?_
  refine wp_iconst (v := 0) dX4_hasPlaces_1 (by decide) rfl ?_
  refine wp_aload_n dX4_hasPlaces_2 rfl rfl ?_
  refine wn_getI dX4_hasPlaces_3 fRX4_19 (o28 ha) rfl rfl ?_
  refine wn_callS3d dX4_hasPlaces_6 rRX4_33 (Nat.le_of_ble_eq_true rfl) rfl rfl rfl (Nat.le_of_ble_eq_true rfl) rfl (c7_within) ?_
  refine wp_if_eq_b (t := 30) dX4_hasPlaces_9 rfl rfl (fun h9 => ?_) (fun h9 => ?_)
  · refine wp_iconst (v := 0) dX4_hasPlaces_30 (by decide) rfl ?_
    refine wp_iret dX4_hasPlaces_31 rfl (by decide) ?_
    exact ⟨_, _, rfl, rfl, (bI_f (fun z => h9 z.1)).symm, rfl⟩
  · refine wp_iload_n dX4_hasPlaces_12 rfl rfl ?_
    refine wp_iconst (v := 0) dX4_hasPlaces_13 (by decide) rfl ?_
    refine wp_aload_n dX4_hasPlaces_14 rfl rfl ?_
    refine wn_getI dX4_hasPlaces_15 fRX4_19 (o28 ha) rfl rfl ?_
    refine wp_iload_n dX4_hasPlaces_18 rfl rfl ?_
    refine wp_isub dX4_hasPlaces_19 rfl ?_
    refine wn_callS3d dX4_hasPlaces_20 rRX4_33 (Nat.le_of_ble_eq_true rfl) rfl rfl rfl (Nat.le_of_ble_eq_true rfl) rfl (c7_within) ?_
    refine wp_if_eq_b (t := 30) dX4_hasPlaces_23 rfl rfl (fun h23 => ?_) (fun h23 => ?_)
    · refine wp_iconst (v := 0) dX4_hasPlaces_30 (by decide) rfl ?_
      refine wp_iret dX4_hasPlaces_31 rfl (by decide) ?_
      exact ⟨_, _, rfl, rfl, (bI_f (fun z => h23 z.2)).symm, rfl⟩
    · refine wp_iconst (v := 1) dX4_hasPlaces_26 (by decide) rfl ?_
      refine wp_goto (t := 31) dX4_hasPlaces_27 rfl ?_
      refine wp_iret dX4_hasPlaces_31 rfl (by decide) ?_
      exact ⟨_, _, rfl, rfl, (bI_t ⟨h9, h23⟩).symm, rfl⟩
theorem pls {n : Nat} {x m : Int32} (hn : n ≤ 24) : ((0 ≤ x ∧ x ≤ nI n) ∧ (0 ≤ m ∧ m ≤ nI n - x)) ↔ (¬ x < 0 ∧ ¬ m < 0 ∧ x ≤ nI n - m) := by
  constructor
  · rintro ⟨⟨h1, h2⟩, h3, h4⟩
    obtain ⟨X, hX, rfl⟩ := nI_of (Int32.not_lt.mpr h1)
    obtain ⟨m', hm, rfl⟩ := nI_of (Int32.not_lt.mpr h3)
    have := (le_sub hm hn hX).mp h4
    exact ⟨nI_pos hX, nI_pos hm, (le_sub hX hn hm).mpr (by omega)⟩
  · rintro ⟨h1, h3, h4⟩
    obtain ⟨X, hX, rfl⟩ := nI_of h1
    obtain ⟨m', hm, rfl⟩ := nI_of h3
    have := (le_sub hX hn hm).mp h4
    exact ⟨⟨nI_pos' hX, (nI_leI hX (by omega)).mpr (by omega)⟩, nI_pos' hm, (le_sub hm hn hX).mpr (by omega)⟩
theorem SH.cp {s : Sn} {so si ce : Fl} {P Q N : Nat} (h : SH s so si ce) (ha : a < 4) (hb : b < 4) (hP : P + N ≤ 24) (hQ : Q + N ≤ 24) : SH (sV s (29, b, 0) (va_cpy (s.1 (29, a, 0)) (s.1 (29, b, 0)) P Q N)) so si (cpk ce (24 * a + P) (24 * b + Q) N) := fun e he => by
  obtain ⟨p1, p2, p3⟩ := h e he
  rw [sV_nr (show ((28, e, 0) : Rf) ≠ (29, b, 0) from fun z => absurd (congrArg Prod.fst z) (by show ¬ 28 = 29; decide))]
  refine ⟨p1, p2, fun k hk => ?_⟩
  by_cases eb : e = b
  · subst eb
    rw [sV_eq]
    show (if Q ≤ k ∧ k < Q + N then s.1 (29, a, 0) (P + (k - Q)) else s.1 (29, e, 0) k) = if 24 * e + Q ≤ 24 * e + k ∧ 24 * e + k < 24 * e + Q + N then ce (24 * a + P + (24 * e + k - (24 * e + Q))) else ce (24 * e + k)
    by_cases c : Q ≤ k ∧ k < Q + N
    · rw [if_pos c, if_pos (by omega), (h a ha).2.2 _ (by omega), show 24 * a + P + (24 * e + k - (24 * e + Q)) = 24 * a + (P + (k - Q)) by omega]
    · rw [if_neg c, if_neg (by omega), p3 k hk]
  · rw [sV_nr (show ((29, e, 0) : Rf) ≠ (29, b, 0) from fun z => eb (congrArg (fun r : Rf => r.2.1) z)), p3 k hk]
    exact (if_neg (by omega)).symm
theorem c7_copy {s : Sn} {so si ce : Fl} {x p y q m : Int32} (h : SH s so si ce) (hQ : SQ so si) : Ca (d + 2) MX7_copy [vR 10 0 0, vI x, vI p, vI y, vI q, vI m] (hN s) (Pv fun z t => z = cyA so si x p y q m ∧ SH t so si (cyC so si ce x p y q m) ∧ FQ XS s t) := by
  change Wp _ _ 0 [some _, some _, some _, some _, some _, some _, none, none] [] _ _
  refine wp_iload_n dX7_copy_0 rfl rfl ?_
  refine wn_callS1d dX7_copy_1 rRX7_204 (Nat.le_of_ble_eq_true rfl) rfl (Nat.le_of_ble_eq_true rfl) rfl (c7_isSheet) ?_
  refine wp_if_eq_b (t := 14) dX7_copy_4 rfl rfl (fun h4 => ?_) (fun h4 => ?_)
  · refine wp_ldc dX7_copy_14 kRX7_68 rfl ?_
    refine wp_iret dX7_copy_16 rfl rfl ?_
    obtain ⟨e1, e2⟩ := cy_no (so := so) (si := si) (ce := ce) (x := x) (p := p) (y := y) (q := q) (m := m) (fun z => h4 z.1)
    exact ⟨_, _, rfl, rfl, e1.symm, by rw [e2]; exact h, FQ.rf⟩
  · refine wp_iload_n dX7_copy_7 rfl rfl ?_
    refine wn_callS1d dX7_copy_8 rRX7_204 (Nat.le_of_ble_eq_true rfl) rfl (Nat.le_of_ble_eq_true rfl) rfl (c7_isSheet) ?_
    refine wp_if_ne_b (t := 17) dX7_copy_11 rfl rfl (fun h11 => ?_) (fun h11 => ?_)
    · obtain ⟨a, ha, rfl⟩ := sht h4
      obtain ⟨b, hb, rfl⟩ := sht h11
      obtain ⟨hs1, n, hn, hsn⟩ := hQ a ha
      obtain ⟨hs2, n2, hn2, hsn2⟩ := hQ b hb
      refine wp_aload_n dX7_copy_17 rfl rfl ?_
      refine wn_getR dX7_copy_18 fRX7_34 o10 rfl rfl rfl ?_
      refine wp_iload_n dX7_copy_21 rfl rfl ?_
      refine wn_aald25 dX7_copy_22 (nIx rfl (by omega)) ha rfl ?_
      refine wp_astore (l' := [_, _, _, _, _, _, some _, _]) dX7_copy_23 rfl rfl ?_
      refine wp_aload_n dX7_copy_25 rfl rfl ?_
      refine wn_getR dX7_copy_26 fRX7_34 o10 rfl rfl rfl ?_
      refine wp_iload_n dX7_copy_29 rfl rfl ?_
      refine wn_aald25 dX7_copy_30 (nIx rfl (by omega)) hb rfl ?_
      refine wp_astore (l' := [_, _, _, _, _, _, _, some _]) dX7_copy_31 rfl rfl ?_
      refine wp_aload dX7_copy_33 rfl rfl ?_
      refine wn_callV0d dX7_copy_35 rRX7_207 (rcv_of (o28 ha) rfl) (Nat.le_of_ble_eq_true rfl)  (Nat.le_of_ble_eq_true rfl) rfl (c4_isMissing ha) ?_
      rw [(h a ha).1]
      refine wp_if_ne_b (t := 49) dX7_copy_38 rfl rfl (fun h38 => ?_) (fun h38 => ?_)
      · refine wp_ldc dX7_copy_49 kRX7_210 rfl ?_
        refine wp_iret dX7_copy_51 rfl rfl ?_
        obtain ⟨e1, e2⟩ := cy_n (so := so) (si := si) (ce := ce) (p := p) (q := q) (m := m) ha hb ⟨h4, h11⟩ (Or.inl (by rw [h38]; decide))
        exact ⟨_, _, rfl, rfl, e1.symm, by rw [e2]; exact h, FQ.rf⟩
      · refine wp_aload dX7_copy_41 rfl rfl ?_
        refine wn_callV0d dX7_copy_43 rRX7_207 (rcv_of (o28 hb) rfl) (Nat.le_of_ble_eq_true rfl)  (Nat.le_of_ble_eq_true rfl) rfl (c4_isMissing hb) ?_
        rw [(h b hb).1]
        refine wp_if_eq_b (t := 52) dX7_copy_46 rfl rfl (fun h46 => ?_) (fun h46 => ?_)
        · have hs : ¬ (so a < 0 ∨ so b < 0) := fun z => z.elim (fun z => (hs1).elim h38 (fun e => e.elim (fun e => absurd (e ▸ z) (by decide)) (fun e => absurd (e ▸ z) (by decide)))) (fun z => (hs2).elim h46 (fun e => e.elim (fun e => absurd (e ▸ z) (by decide)) (fun e => absurd (e ▸ z) (by decide))))
          refine wp_aload dX7_copy_52 rfl rfl ?_
          refine wn_getI dX7_copy_54 fRX7_269 (o28 ha) rfl rfl ?_
          refine wp_aload dX7_copy_57 rfl rfl ?_
          refine wn_getI dX7_copy_59 fRX7_269 (o28 hb) rfl rfl ?_
          rw [(h a ha).1, (h b hb).1]
          refine wp_icmp_eq (t := 68) dX7_copy_62 rfl rfl (fun h62 => ?_) (fun h62 => ?_)
          · refine wp_aload dX7_copy_68 rfl rfl ?_
            refine wp_iload_n dX7_copy_70 rfl rfl ?_
            refine wp_iload dX7_copy_71 rfl rfl ?_
            refine wn_callV2d dX7_copy_73 rRX7_283 (rcv_of (o28 ha) rfl) (Nat.le_of_ble_eq_true rfl) rfl rfl (Nat.le_of_ble_eq_true rfl) rfl (c4_hasPls ha) ?_
            rw [(h a ha).2.1]
            refine wp_if_eq_b (t := 91) dX7_copy_76 rfl rfl (fun h76 => ?_) (fun h76 => ?_)
            · refine wp_ldcw dX7_copy_91 kRX7_268 rfl ?_
              refine wp_iret dX7_copy_94 rfl rfl ?_
              obtain ⟨e1, e2⟩ := cy_i (so := so) (si := si) (ce := ce) (p := p) (q := q) (m := m) ha hb ⟨h4, h11⟩ hs h62 (fun z => h76 (by rw [hsn]; rw [hsn] at z; exact (pls hn).mpr ⟨z.1, z.2.2.1, z.2.2.2.1⟩))
              exact ⟨_, _, rfl, rfl, e1.symm, by rw [e2]; exact h, FQ.rf⟩
            · refine wp_aload dX7_copy_79 rfl rfl ?_
              refine wp_iload dX7_copy_81 rfl rfl ?_
              refine wp_iload dX7_copy_83 rfl rfl ?_
              refine wn_callV2d dX7_copy_85 rRX7_283 (rcv_of (o28 hb) rfl) (Nat.le_of_ble_eq_true rfl) rfl rfl (Nat.le_of_ble_eq_true rfl) rfl (c4_hasPls hb) ?_
              rw [(h b hb).2.1]
              refine wp_if_ne_b (t := 95) dX7_copy_88 rfl rfl (fun h88 => ?_) (fun h88 => ?_)
              · have hK : cyK (si a) (si b) p q m := by
                  rw [hsn] at h76 ⊢
                  rw [hsn2] at h88 ⊢
                  obtain ⟨k1, k2, k3⟩ := (pls hn).mp h76
                  obtain ⟨k4, k5, k6⟩ := (pls hn2).mp h88
                  exact ⟨k1, k4, k2, k3, k6⟩
                have hK2 := hK
                rw [hsn, hsn2] at hK2
                obtain ⟨P, Q, N, rfl, rfl, rfl, hP, hQ2⟩ := cyK_n hn hn2 hK2
                refine wp_aload dX7_copy_95 rfl rfl ?_
                refine wn_getR dX7_copy_97 fRX7_272 (o28 ha) rfl rfl rfl ?_
                refine wp_iload_n dX7_copy_100 rfl rfl ?_
                refine wp_aload dX7_copy_101 rfl rfl ?_
                refine wn_getR dX7_copy_103 fRX7_272 (o28 hb) rfl rfl rfl ?_
                refine wp_iload dX7_copy_106 rfl rfl ?_
                refine wp_iload dX7_copy_108 rfl rfl ?_
                refine wn_acopy dX7_copy_110 rRX7_287 (o29 hb) (o29 ha) rfl rfl (N := N) (D := Q) (S := P) (nIx rfl (by omega)) (nIx rfl (by omega)) (nIx rfl (by omega)) (show P + N ≤ 24 by omega) (show Q + N ≤ 24 by omega) (by omega) (Nat.le_of_ble_eq_true rfl) rfl ?_
                refine wp_iload dX7_copy_113 rfl rfl ?_
                refine wp_iret dX7_copy_115 rfl rfl ?_
                obtain ⟨e1, e2⟩ := cy_y (so := so) (si := si) (ce := ce) ha hb ⟨h4, h11⟩ hs h62 hK (by omega) (by omega) (by omega)
                exact ⟨_, _, rfl, rfl, e1.symm, by rw [e2]; exact h.cp ha hb (by omega) (by omega), FQ.rf.vt (Or.inr rfl)⟩
              · refine wp_ldcw dX7_copy_91 kRX7_268 rfl ?_
                refine wp_iret dX7_copy_94 rfl rfl ?_
                obtain ⟨e1, e2⟩ := cy_i (so := so) (si := si) (ce := ce) (p := p) (q := q) (m := m) ha hb ⟨h4, h11⟩ hs h62 (fun z => h88 (by rw [hsn2]; rw [hsn2] at z; exact (pls hn2).mpr ⟨z.2.1, z.2.2.1, z.2.2.2.2⟩))
                exact ⟨_, _, rfl, rfl, e1.symm, by rw [e2]; exact h, FQ.rf⟩
          · refine wp_ldc dX7_copy_65 kRX7_123 rfl ?_
            refine wp_iret dX7_copy_67 rfl rfl ?_
            obtain ⟨e1, e2⟩ := cy_k (so := so) (si := si) (ce := ce) (p := p) (q := q) (m := m) ha hb ⟨h4, h11⟩ hs h62
            exact ⟨_, _, rfl, rfl, e1.symm, by rw [e2]; exact h, FQ.rf⟩
        · refine wp_ldc dX7_copy_49 kRX7_210 rfl ?_
          refine wp_iret dX7_copy_51 rfl rfl ?_
          obtain ⟨e1, e2⟩ := cy_n (so := so) (si := si) (ce := ce) (p := p) (q := q) (m := m) ha hb ⟨h4, h11⟩ (Or.inr (by rw [h46]; decide))
          exact ⟨_, _, rfl, rfl, e1.symm, by rw [e2]; exact h, FQ.rf⟩
    · refine wp_ldc dX7_copy_14 kRX7_68 rfl ?_
      refine wp_iret dX7_copy_16 rfl rfl ?_
      obtain ⟨e1, e2⟩ := cy_no (so := so) (si := si) (ce := ce) (x := x) (p := p) (y := y) (q := q) (m := m) (fun z => h11 z.2)
      exact ⟨_, _, rfl, rfl, e1.symm, by rw [e2]; exact h, FQ.rf⟩
end
