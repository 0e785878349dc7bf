/-! THE PURE PART, 60: the reference goes to the next piece of a text -/
section
variable {d i j : Nat}
def run (p : Nat → Bool) : Nat → Nat → Nat
  | 0, k => k
  | m + 1, k => if p k = true then run p m (k + 1) else k
theorem run_n {p : Nat → Bool} {m k : Nat} (h : ¬ p k = true) : run p m k = k := by
  cases m with
  | zero => rfl
  | succ m => exact if_neg h
theorem run_y {p : Nat → Bool} {n k : Nat} (h : p k = true) (hk : k < n) : run p (n - k) k = run p (n - (k + 1)) (k + 1) := by
  rw [show n - k = (n - (k + 1)) + 1 by omega]
  exact if_pos h
theorem run_ge {p : Nat → Bool} : ∀ (m k : Nat), k ≤ run p m k ∧ run p m k ≤ k + m
  | 0, k => ⟨Nat.le_refl _, Nat.le_refl _⟩
  | m + 1, k => by
    by_cases h : p k = true
    · have := run_ge (p := p) m (k + 1)
      rw [show run p (m + 1) k = run p m (k + 1) from if_pos h]
      omega
    · rw [run_n h]; omega
theorem run_in {p : Nat → Bool} : ∀ (m k q : Nat), k ≤ q → q < run p m k → p q = true
  | 0, k, q, h1, h2 => by have : run p 0 k = k := rfl; omega
  | m + 1, k, q, h1, h2 => by
    by_cases h : p k = true
    · rw [show run p (m + 1) k = run p m (k + 1) from if_pos h] at h2
      by_cases e : q = k
      · rw [e]; exact h
      · exact run_in m (k + 1) q (by omega) h2
    · rw [run_n h] at h2; omega
theorem run_end {p : Nat → Bool} {n : Nat} (hp : ∀ k, p k = true → k < n) : ∀ (m k : Nat), n ≤ k + m → ¬ p (run p m k) = true
  | 0, k, h => fun z => by have := hp k z; omega
  | m + 1, k, h => by
    by_cases e : p k = true
    · rw [show run p (m + 1) k = run p m (k + 1) from if_pos e]
      exact run_end hp m (k + 1) (by omega)
    · rw [run_n e]; exact e
abbrev isL (tp : Fl) (n k : Nat) : Prop := k < n ∧ 97 ≤ tp k ∧ tp k ≤ 122
abbrev isF (tp : Fl) (n k : Nat) : Prop := k < n ∧ 48 ≤ tp k ∧ tp k ≤ 57
def pL (tp : Fl) (n : Nat) : Nat → Bool := fun k => decide (isL tp n k)
def pF (tp : Fl) (n : Nat) : Nat → Bool := fun k => decide (isF tp n k)
def pS (tp : Fl) (n : Nat) : Nat → Bool := fun k => decide (k < n ∧ tp k = 32)
/-- the number that so many figures are -/
def num (tp : Fl) (f : Nat) : Nat → Int32
  | 0 => 0
  | j + 1 => 10 * num tp f j + tp (f + j) - 48
def gF (tp : Fl) (n k : Nat) : Nat := run (pS tp n) (n - k) k
def gN (tp : Fl) (n f : Nat) : Nat := if f = n then n else if isL tp n f then run (pL tp n) (n - f) f else if isF tp n f then run (pF tp n) (n - f) f else f + 1
def gT (tp : Fl) (n f : Nat) (en : Int32) : Int32 := if f = n then 0 else if isL tp n f then (if nI f = en then 4 else 1) else if isF tp n f then (if nI f = en ∨ 4 < gN tp n f - f then 4 else 2) else 3
def gV (tp : Fl) (n f : Nat) (v : Int32) : Int32 := if f = n then v else if isL tp n f then tp f else if isF tp n f then num tp f (min 4 (gN tp n f - f)) else tp f
def gE (tp : Fl) (n f : Nat) (en : Int32) : Int32 := if f = n then en else if isL tp n f ∨ isF tp n f then nI (gN tp n f) else en
theorem gF_le {tp : Fl} {n k : Nat} (h : k ≤ n) : k ≤ gF tp n k ∧ gF tp n k ≤ n := by
  have := run_ge (p := pS tp n) (n - k) k
  unfold gF
  omega
theorem gN_le {tp : Fl} {n f : Nat} (h : f ≤ n) : f ≤ gN tp n f ∧ gN tp n f ≤ n ∧ (f < n → f < gN tp n f) := by
  unfold gN
  by_cases e : f = n
  · rw [if_pos e]; omega
  · rw [if_neg e]
    by_cases e1 : isL tp n f
    · rw [if_pos e1, run_y (show pL tp n f = true from decide_eq_true e1) (by omega)]
      have := run_ge (p := pL tp n) (n - (f + 1)) (f + 1)
      omega
    · rw [if_neg e1]
      by_cases e2 : isF tp n f
      · rw [if_pos e2, run_y (show pF tp n f = true from decide_eq_true e2) (by omega)]
        have := run_ge (p := pF tp n) (n - (f + 1)) (f + 1)
        omega
      · rw [if_neg e2]; omega
/-- the reference stands at a piece of a text -/
def GO (tp : Fl) (n k : Nat) (r r' : Fl) : Prop := (r' 7 = nI (gN tp n (gF tp n k)) ∧ r' 8 = nI (gF tp n k) ∧ r' 9 = gT tp n (gF tp n k) (r 11) ∧ r' 10 = gV tp n (gF tp n k) (r 10) ∧ r' 11 = gE tp n (gF tp n k) (r 11)) ∧ ∀ q, ¬ (7 ≤ q ∧ q ≤ 11) → r' q = r q
theorem upd_sw {f : Fl} {a b : Nat} {x y : Int32} (h : a ≠ b) : upd (upd f b y) a x = upd (upd f a x) b y := by
  funext q
  unfold upd
  by_cases e : q = a
  · subst e; rw [if_pos rfl, if_neg h, if_pos rfl]
  · rw [if_neg e]
    by_cases e2 : q = b
    · rw [if_pos e2, if_pos e2]
    · rw [if_neg e2, if_neg e2, if_neg e]
theorem c8_isLetter {s : Sn} {tp : Fl} {n k : Nat} (hn : n ≤ 96) (hk : k ≤ 96) (ht : s.1 (41, 4, 0) = tp) (h6 : s.1 (40, 0, 0) 6 = nI n) : Ca d MX8_isLetter [vR 40 0 0, vI (nI k)] (hN s) (Pd (bI (isL tp n k)) s) := by
  change Wp _ _ 0 [some _, some _] [] _ _
  refine wp_iload_n dX8_isLetter_0 rfl rfl ?_
  refine wp_aload_n dX8_isLetter_1 rfl rfl ?_
  refine wn_getI dX8_isLetter_2 fRX8_176 o40 rfl rfl ?_
  rw [h6]
  refine wp_icmp_ge (t := 34) dX8_isLetter_5 rfl rfl (fun h5 => ?_) (fun h5 => ?_)
  · refine wp_iconst (v := 0) dX8_isLetter_34 (by decide) rfl ?_
    refine wp_iret dX8_isLetter_35 rfl (by decide) ?_
    exact ⟨_, _, rfl, rfl, (bI_f (fun z => absurd z.1 (by have := (nI_leI (by omega) (by omega)).mp h5; omega))).symm, rfl⟩
  · have hkn : k < n := by have := mt (nI_leI (by omega) (by omega)).mpr h5; omega
    refine wp_aload_n dX8_isLetter_8 rfl rfl ?_
    refine wn_getR dX8_isLetter_9 fRX8_22 o40 rfl rfl rfl ?_
    refine wp_iload_n dX8_isLetter_12 rfl rfl ?_
    refine wn_iald dX8_isLetter_13 (o41 4 rfl) rfl (nIx rfl (by omega)) (show k < 96 by omega) rfl ?_
    rw [ht]
    refine wp_bipush (v := 97) dX8_isLetter_14 (by decide) rfl ?_
    refine wp_icmp_lt (t := 34) dX8_isLetter_16 rfl rfl (fun h16 => ?_) (fun h16 => ?_)
    · refine wp_iconst (v := 0) dX8_isLetter_34 (by decide) rfl ?_
      refine wp_iret dX8_isLetter_35 rfl (by decide) ?_
      exact ⟨_, _, rfl, rfl, (bI_f (fun z => absurd z.2.1 (Int32.not_le.mpr h16))).symm, rfl⟩
    · refine wp_aload_n dX8_isLetter_19 rfl rfl ?_
      refine wn_getR dX8_isLetter_20 fRX8_22 o40 rfl rfl rfl ?_
      refine wp_iload_n dX8_isLetter_23 rfl rfl ?_
      refine wn_iald dX8_isLetter_24 (o41 4 rfl) rfl (nIx rfl (by omega)) (show k < 96 by omega) rfl ?_
      rw [ht]
      refine wp_bipush (v := 122) dX8_isLetter_25 (by decide) rfl ?_
      refine wp_icmp_gt (t := 34) dX8_isLetter_27 rfl rfl (fun h27 => ?_) (fun h27 => ?_)
      · refine wp_iconst (v := 0) dX8_isLetter_34 (by decide) rfl ?_
        refine wp_iret dX8_isLetter_35 rfl (by decide) ?_
        exact ⟨_, _, rfl, rfl, (bI_f (fun z => absurd z.2.2 (Int32.not_le.mpr h27))).symm, rfl⟩
      · refine wp_iconst (v := 1) dX8_isLetter_30 (by decide) rfl ?_
        refine wp_goto (t := 35) dX8_isLetter_31 rfl ?_
        refine wp_iret dX8_isLetter_35 rfl (by decide) ?_
        exact ⟨_, _, rfl, rfl, (bI_t ⟨hkn, Int32.not_lt.mp h16, Int32.not_lt.mp h27⟩).symm, rfl⟩
theorem c8_isFigure {s : Sn} {tp : Fl} {n k : Nat} (hn : n ≤ 96) (hk : k ≤ 96) (ht : s.1 (41, 4, 0) = tp) (h6 : s.1 (40, 0, 0) 6 = nI n) : Ca d MX8_isFigure [vR 40 0 0, vI (nI k)] (hN s) (Pd (bI (isF tp n k)) s) := by
  change Wp _ _ 0 [some _, some _] [] _ _
  refine wp_iload_n dX8_isFigure_0 rfl rfl ?_
  refine wp_aload_n dX8_isFigure_1 rfl rfl ?_
  refine wn_getI dX8_isFigure_2 fRX8_176 o40 rfl rfl ?_
  rw [h6]
  refine wp_icmp_ge (t := 34) dX8_isFigure_5 rfl rfl (fun h5 => ?_) (fun h5 => ?_)
  · refine wp_iconst (v := 0) dX8_isFigure_34 (by decide) rfl ?_
    refine wp_iret dX8_isFigure_35 rfl (by decide) ?_
    exact ⟨_, _, rfl, rfl, (bI_f (fun z => absurd z.1 (by have := (nI_leI (by omega) (by omega)).mp h5; omega))).symm, rfl⟩
  · have hkn : k < n := by have := mt (nI_leI (by omega) (by omega)).mpr h5; omega
    refine wp_aload_n dX8_isFigure_8 rfl rfl ?_
    refine wn_getR dX8_isFigure_9 fRX8_22 o40 rfl rfl rfl ?_
    refine wp_iload_n dX8_isFigure_12 rfl rfl ?_
    refine wn_iald dX8_isFigure_13 (o41 4 rfl) rfl (nIx rfl (by omega)) (show k < 96 by omega) rfl ?_
    rw [ht]
    refine wp_bipush (v := 48) dX8_isFigure_14 (by decide) rfl ?_
    refine wp_icmp_lt (t := 34) dX8_isFigure_16 rfl rfl (fun h16 => ?_) (fun h16 => ?_)
    · refine wp_iconst (v := 0) dX8_isFigure_34 (by decide) rfl ?_
      refine wp_iret dX8_isFigure_35 rfl (by decide) ?_
      exact ⟨_, _, rfl, rfl, (bI_f (fun z => absurd z.2.1 (Int32.not_le.mpr h16))).symm, rfl⟩
    · refine wp_aload_n dX8_isFigure_19 rfl rfl ?_
      refine wn_getR dX8_isFigure_20 fRX8_22 o40 rfl rfl rfl ?_
      refine wp_iload_n dX8_isFigure_23 rfl rfl ?_
      refine wn_iald dX8_isFigure_24 (o41 4 rfl) rfl (nIx rfl (by omega)) (show k < 96 by omega) rfl ?_
      rw [ht]
      refine wp_bipush (v := 57) dX8_isFigure_25 (by decide) rfl ?_
      refine wp_icmp_gt (t := 34) dX8_isFigure_27 rfl rfl (fun h27 => ?_) (fun h27 => ?_)
      · refine wp_iconst (v := 0) dX8_isFigure_34 (by decide) rfl ?_
        refine wp_iret dX8_isFigure_35 rfl (by decide) ?_
        exact ⟨_, _, rfl, rfl, (bI_f (fun z => absurd z.2.2 (Int32.not_le.mpr h27))).symm, rfl⟩
      · refine wp_iconst (v := 1) dX8_isFigure_30 (by decide) rfl ?_
        refine wp_goto (t := 35) dX8_isFigure_31 rfl ?_
        refine wp_iret dX8_isFigure_35 rfl (by decide) ?_
        exact ⟨_, _, rfl, rfl, (bI_t ⟨hkn, Int32.not_lt.mp h16, Int32.not_lt.mp h27⟩).symm, rfl⟩
theorem l8_skip {s : Sn} {tp : Fl} {n k0 : Nat} {P : Option Av → St → Prop} {c1 : Option Av} (hn : n ≤ 96) (ht : s.1 (41, 4, 0) = tp) (h6 : s.1 (40, 0, 0) 6 = nI n) (kk : ∀ s2 : Sn, s2.1 (40, 0, 0) = upd (s.1 (40, 0, 0)) 7 (nI (gF tp n k0)) → Fr [(40, 0, 0)] s s2 → Wp d MX8_go 38 [some (vR 40 0 0), c1] [] (hN s2) P) : ∀ k, k ≤ n → gF tp n k = gF tp n k0 → ∀ s1 : Sn, s1.1 (40, 0, 0) = upd (s.1 (40, 0, 0)) 7 (nI k) → Fr [(40, 0, 0)] s s1 → Wp d MX8_go 0 [some (vR 40 0 0), c1] [] (hN s1) P := by
  refine ind_up (fun k hk ih => ?_)
  intro hg s1 e1 hF
  have e7 : s1.1 (40, 0, 0) 7 = nI k := by rw [e1, upd_eq]
  have e6 : s1.1 (40, 0, 0) 6 = nI n := by rw [e1, upd_ne (by decide)]; exact h6
  have e4 : s1.1 (41, 4, 0) = tp := by rw [hF.1 _ (by decide)]; exact ht
  refine wp_aload_n dX8_go_0 rfl rfl ?_
  refine wn_getI dX8_go_1 fRX8_180 o40 rfl rfl ?_
  rw [e7]
  refine wp_aload_n dX8_go_4 rfl rfl ?_
  refine wn_getI dX8_go_5 fRX8_176 o40 rfl rfl ?_
  rw [e6]
  refine wp_icmp_ge (t := 38) dX8_go_8 rfl rfl (fun h8 => ?_) (fun h8 => ?_)
  · have hz : gF tp n k = k := run_n (show ¬ pS tp n k = true from fun z => absurd (of_decide_eq_true z).1 (by have := (nI_leI (by omega) (by omega)).mp h8; omega))
    rw [hz] at hg
    exact kk s1 (by rw [e1, hg]) hF
  · have hl : k < n := by have := mt (nI_leI (by omega) (by omega)).mpr h8; omega
    refine wp_aload_n dX8_go_11 rfl rfl ?_
    refine wn_getR dX8_go_12 fRX8_22 o40 rfl rfl rfl ?_
    refine wp_aload_n dX8_go_15 rfl rfl ?_
    refine wn_getI dX8_go_16 fRX8_180 o40 rfl rfl ?_
    rw [e7]
    refine wn_iald dX8_go_19 (o41 4 rfl) rfl (nIx rfl (by omega)) (show k < 96 by omega) rfl ?_
    rw [e4]
    refine wp_bipush (v := 32) dX8_go_20 (by decide) rfl ?_
    refine wp_icmp_ne (t := 38) dX8_go_22 rfl rfl (fun h22 => ?_) (fun h22 => ?_)
    · have hz : gF tp n k = k := run_n (show ¬ pS tp n k = true from fun z => h22 (of_decide_eq_true z).2)
      rw [hz] at hg
      exact kk s1 (by rw [e1, hg]) hF
    · refine wp_aload_n dX8_go_25 rfl rfl ?_
      refine wp_dup dX8_go_26 rfl rfl ?_
      refine wn_getI dX8_go_27 fRX8_180 o40 rfl rfl ?_
      rw [e7]
      refine wp_iconst (v := 1) dX8_go_30 (by decide) rfl ?_
      refine wp_iadd dX8_go_31 rfl ?_
      rw [nI_1]
      refine wn_putI dX8_go_32 fRX8_180 o40 rfl rfl rfl ?_
      refine wp_goto (t := 0) dX8_go_35 rfl ?_
      have hz : gF tp n k = gF tp n (k + 1) := run_y (show pS tp n k = true from decide_eq_true ⟨hl, h22⟩) hl
      refine ih hl (hz.symm.trans hg) _ ?_ (hF.pt (by decide))
      rw [sI_row, e1, upd_upd]
theorem l8_lets {s : Sn} {tp : Fl} {n k0 : Nat} {P : Option Av → St → Prop} {c1 : Int32} (hn : n ≤ 96) (ht : s.1 (41, 4, 0) = tp) (h6 : s.1 (40, 0, 0) 6 = nI n) (kk : ∀ s2 : Sn, s2.1 (40, 0, 0) = upd (s.1 (40, 0, 0)) 7 (nI k0) → Fr [(40, 0, 0)] s s2 → Wp (d + 1) MX8_go 117 [some (vR 40 0 0), some (vI c1)] [] (hN s2) P) : ∀ k, k ≤ n → run (pL tp n) (n - k) k = k0 → ∀ s1 : Sn, s1.1 (40, 0, 0) = upd (s.1 (40, 0, 0)) 7 (nI k) → Fr [(40, 0, 0)] s s1 → Wp (d + 1) MX8_go 93 [some (vR 40 0 0), some (vI c1)] [] (hN s1) P := by
  refine ind_up (fun k hk ih => ?_)
  intro hg s1 e1 hF
  have e7 : s1.1 (40, 0, 0) 7 = nI k := by rw [e1, upd_eq]
  have e6 : s1.1 (40, 0, 0) 6 = nI n := by rw [e1, upd_ne (by decide)]; exact h6
  have e4 : s1.1 (41, 4, 0) = tp := by rw [hF.1 _ (by decide)]; exact ht
  refine wp_aload_n dX8_go_93 rfl rfl ?_
  refine wp_aload_n dX8_go_94 rfl rfl ?_
  refine wn_getI dX8_go_95 fRX8_180 o40 rfl rfl ?_
  rw [e7]
  refine wn_callV1d dX8_go_98 rRX8_192 (rcv_of o40 rfl) (Nat.le_of_ble_eq_true rfl) rfl (Nat.le_of_ble_eq_true rfl) rfl (c8_isLetter hn (by omega) e4 e6) ?_
  refine wp_if_eq_b (t := 117) dX8_go_101 rfl rfl (fun h101 => ?_) (fun h101 => ?_)
  · have hz : run (pL tp n) (n - k) k = k := run_n (show ¬ pL tp n k = true from fun z => h101 (of_decide_eq_true z))
    rw [hz] at hg
    exact kk s1 (by rw [e1, hg]) hF
  · refine wp_aload_n dX8_go_104 rfl rfl ?_
    refine wp_dup dX8_go_105 rfl rfl ?_
    refine wn_getI dX8_go_106 fRX8_180 o40 rfl rfl ?_
    rw [e7]
    refine wp_iconst (v := 1) dX8_go_109 (by decide) rfl ?_
    refine wp_iadd dX8_go_110 rfl ?_
    rw [nI_1]
    refine wn_putI dX8_go_111 fRX8_180 o40 rfl rfl rfl ?_
    refine wp_goto (t := 93) dX8_go_114 rfl ?_
    have hz := run_y (show pL tp n k = true from decide_eq_true h101) h101.1
    refine ih h101.1 (hz.symm.trans hg) _ ?_ (hF.pt (by decide))
    rw [sI_row, e1, upd_upd]
theorem l8_figs {s : Sn} {tp : Fl} {n f k0 : Nat} {P : Option Av → St → Prop} {c1 : Int32} (hn : n ≤ 96) (ht : s.1 (41, 4, 0) = tp) (h6 : s.1 (40, 0, 0) 6 = nI n) (h8 : s.1 (40, 0, 0) 8 = nI f) (kk : ∀ s2 : Sn, s2.1 (40, 0, 0) = upd (upd (s.1 (40, 0, 0)) 7 (nI k0)) 10 (num tp f (min 4 (k0 - f))) → Fr [(40, 0, 0)] s s2 → Wp (d + 1) MX8_go 238 [some (vR 40 0 0), some (vI c1)] [] (hN s2) P) : ∀ k, k ≤ n → f ≤ k → run (pF tp n) (n - k) k = k0 → ∀ s1 : Sn, s1.1 (40, 0, 0) = upd (upd (s.1 (40, 0, 0)) 7 (nI k)) 10 (num tp f (min 4 (k - f))) → Fr [(40, 0, 0)] s s1 → Wp (d + 1) MX8_go 170 [some (vR 40 0 0), some (vI c1)] [] (hN s1) P := by
  refine ind_up (fun k hk ih => ?_)
  intro hfk hg s1 e1 hF
  have e7 : s1.1 (40, 0, 0) 7 = nI k := by rw [e1, upd_ne (by decide), upd_eq]
  have e6 : s1.1 (40, 0, 0) 6 = nI n := by rw [e1, upd_ne (by decide), upd_ne (by decide)]; exact h6
  have e4 : s1.1 (41, 4, 0) = tp := by rw [hF.1 _ (by decide)]; exact ht
  have e8 : s1.1 (40, 0, 0) 8 = nI f := by rw [e1, upd_ne (by decide), upd_ne (by decide)]; exact h8
  have e10 : s1.1 (40, 0, 0) 10 = num tp f (min 4 (k - f)) := by rw [e1, upd_eq]
  refine wp_aload_n dX8_go_170 rfl rfl ?_
  refine wp_aload_n dX8_go_171 rfl rfl ?_
  refine wn_getI dX8_go_172 fRX8_180 o40 rfl rfl ?_
  rw [e7]
  refine wn_callV1d dX8_go_175 rRX8_198 (rcv_of o40 rfl) (Nat.le_of_ble_eq_true rfl) rfl (Nat.le_of_ble_eq_true rfl) rfl (c8_isFigure hn (by omega) e4 e6) ?_
  refine wp_if_eq_b (t := 238) dX8_go_178 rfl rfl (fun h178 => ?_) (fun h178 => ?_)
  · have hz : run (pF tp n) (n - k) k = k := run_n (show ¬ pF tp n k = true from fun z => h178 (of_decide_eq_true z))
    rw [hz] at hg
    exact kk s1 (by rw [e1, hg]) hF
  · refine wp_aload_n dX8_go_181 rfl rfl ?_
    refine wp_aload_n dX8_go_182 rfl rfl ?_
    refine wn_getI dX8_go_183 fRX8_180 o40 rfl rfl ?_
    refine wp_aload_n dX8_go_186 rfl rfl ?_
    refine wn_getI dX8_go_187 fRX8_183 o40 rfl rfl ?_
    refine wp_isub dX8_go_190 rfl ?_
    rw [e7, e8, nI_subn (by omega)]
    refine wp_iconst (v := 4) dX8_go_191 (by decide) rfl ?_
    refine wp_icmp_ge (t := 218) dX8_go_192 rfl rfl (fun h192 => ?_) (fun h192 => ?_)
    · refine wp_aload_n dX8_go_218 rfl rfl ?_
      refine wn_getI dX8_go_219 fRX8_195 o40 rfl rfl ?_
      rw [e10]
      refine wn_putI dX8_go_222 fRX8_195 o40 rfl rfl rfl ?_
      refine wp_aload_n dX8_go_225 rfl rfl ?_
      refine wp_dup dX8_go_226 rfl rfl ?_
      refine wn_getI dX8_go_227 fRX8_180 o40 rfl rfl ?_
      rw [sI_nk (by decide), e7]
      refine wp_iconst (v := 1) dX8_go_230 (by decide) rfl ?_
      refine wp_iadd dX8_go_231 rfl ?_
      rw [nI_1]
      refine wn_putI dX8_go_232 fRX8_180 o40 rfl rfl rfl ?_
      refine wp_goto (t := 170) dX8_go_235 rfl ?_
      have hz := run_y (show pF tp n k = true from decide_eq_true h178) h178.1
      refine ih h178.1 (by omega) (hz.symm.trans hg) _ ?_ ((hF.pt (by decide)).pt (by decide))
      rw [sI_row, sI_row, e1, upd_upd]
      rw [show min 4 (k + 1 - f) = min 4 (k - f) by have := (nI_leI (a := 4) (by decide) (by omega)).mp h192; omega, upd_sw (show (10 : Nat) ≠ 7 by decide), upd_upd]
      exact upd_sw (by decide)
    · refine wp_bipush (v := 10) dX8_go_195 (by decide) rfl ?_
      refine wp_aload_n dX8_go_197 rfl rfl ?_
      refine wn_getI dX8_go_198 fRX8_195 o40 rfl rfl ?_
      rw [e10]
      refine wp_imul dX8_go_201 rfl ?_
      refine wp_aload_n dX8_go_202 rfl rfl ?_
      refine wn_getR dX8_go_203 fRX8_22 o40 rfl rfl rfl ?_
      refine wp_aload_n dX8_go_206 rfl rfl ?_
      refine wn_getI dX8_go_207 fRX8_180 o40 rfl rfl ?_
      rw [e7]
      refine wn_iald dX8_go_210 (o41 4 rfl) rfl (nIx rfl (by omega)) (show k < 96 by omega) rfl ?_
      rw [e4]
      refine wp_iadd dX8_go_211 rfl ?_
      refine wp_bipush (v := 48) dX8_go_212 (by decide) rfl ?_
      refine wp_isub dX8_go_214 rfl ?_
      refine wp_goto (t := 222) dX8_go_215 rfl ?_
      refine wn_putI dX8_go_222 fRX8_195 o40 rfl rfl rfl ?_
      refine wp_aload_n dX8_go_225 rfl rfl ?_
      refine wp_dup dX8_go_226 rfl rfl ?_
      refine wn_getI dX8_go_227 fRX8_180 o40 rfl rfl ?_
      rw [sI_nk (by decide), e7]
      refine wp_iconst (v := 1) dX8_go_230 (by decide) rfl ?_
      refine wp_iadd dX8_go_231 rfl ?_
      rw [nI_1]
      refine wn_putI dX8_go_232 fRX8_180 o40 rfl rfl rfl ?_
      refine wp_goto (t := 170) dX8_go_235 rfl ?_
      have hz := run_y (show pF tp n k = true from decide_eq_true h178) h178.1
      refine ih h178.1 (by omega) (hz.symm.trans hg) _ ?_ ((hF.pt (by decide)).pt (by decide))
      rw [sI_row, sI_row, e1, upd_upd]
      have h4 : k - f < 4 := by have := mt (nI_leI (a := 4) (by decide) (by omega)).mpr h192; omega
      have hs : num tp f (min 4 (k + 1 - f)) = 10 * num tp f (min 4 (k - f)) + tp k - 48 := by
        rw [show min 4 (k + 1 - f) = (k - f) + 1 by omega, show min 4 (k - f) = k - f by omega, num, show f + (k - f) = k by omega]
      rw [hs, upd_sw (show (10 : Nat) ≠ 7 by decide), upd_upd]
      exact upd_sw (by decide)
end
