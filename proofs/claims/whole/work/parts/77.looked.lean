/-! THE PURE PART, 58: looked -/
section
variable {d i j a g : Nat}
/-- what a sheet holds is no number, or not far -/
def CQ (ce : Fl) : Prop := ∀ k, k < 96 → ce k = -1000000005 ∨ (-99999 ≤ ce k ∧ ce k ≤ 99999)
def od (v r : Int32) : Nat := (v.toInt - r.toInt).natAbs
theorem od_le {v : Int32} {r : Nat} (hv : -99999 ≤ v ∧ v ≤ 99999) (hr : r ≤ 13) : od v (nI r) ≤ 100012 := by
  obtain ⟨h1, h2⟩ := hv
  rw [Int32.le_iff_toInt_le] at h1 h2
  have e1 : (-99999 : Int32).toInt = -99999 := by decide
  have e2 : (99999 : Int32).toInt = 99999 := by decide
  have e3 := nI_toInt (n := r) (by omega)
  unfold od
  omega
theorem od_L {v : Int32} {r : Nat} (hv : -99999 ≤ v ∧ v ≤ 99999) (hr : r ≤ 13) : (v.toInt64 - (nI r).toInt64).toInt = v.toInt - (nI r).toInt := by
  obtain ⟨h1, h2⟩ := hv
  rw [Int32.le_iff_toInt_le] at h1 h2
  have e1 : (-99999 : Int32).toInt = -99999 := by decide
  have e2 : (99999 : Int32).toInt = 99999 := by decide
  have e3 := nI_toInt (n := r) (by omega)
  rw [Int64.toInt_sub, Int32.toInt_toInt64, Int32.toInt_toInt64]
  unfold Int.bmod
  dsimp only
  split <;> omega
theorem od_ge {v : Int32} {r : Nat} (hv : -99999 ≤ v ∧ v ≤ 99999) (hr : r ≤ 13) (h : 0 ≤ lg_cmp (v.toInt64 - (nI r).toInt64) (Int64.ofNat 0)) : v.toInt64 - (nI r).toInt64 = Int64.ofNat (od v (nI r)) := by
  have hd := od_L hv hr
  have hl := od_le hv hr
  rw [lg_cmp_ge, Int64.le_iff_toInt_le, Int64.toInt_ofNat_of_lt (by decide), hd] at h
  apply Int64.toInt_inj.mp
  rw [hd, Int64.toInt_ofNat_of_lt (by omega)]
  unfold od
  omega
theorem od_lt {v : Int32} {r : Nat} (hv : -99999 ≤ v ∧ v ≤ 99999) (hr : r ≤ 13) (h : ¬ 0 ≤ lg_cmp (v.toInt64 - (nI r).toInt64) (Int64.ofNat 0)) : -(v.toInt64 - (nI r).toInt64) = Int64.ofNat (od v (nI r)) := by
  have hd := od_L hv hr
  have hl := od_le hv hr
  rw [lg_cmp_ge, Int64.le_iff_toInt_le, Int64.toInt_ofNat_of_lt (by decide), hd] at h
  apply Int64.toInt_inj.mp
  rw [Int64.toInt_neg, hd, Int64.toInt_ofNat_of_lt (by omega)]
  unfold od at *
  unfold Int.bmod
  dsimp only
  split <;> omega
theorem od_I {v : Int32} {r : Nat} (hv : -99999 ≤ v ∧ v ≤ 99999) (hr : r ≤ 13) : (if 0 ≤ nI r - v then nI r - v else 0 - (nI r - v)) = nI (od v (nI r)) := by
  have hl := od_le hv hr
  obtain ⟨h1, h2⟩ := hv
  rw [Int32.le_iff_toInt_le] at h1 h2
  have e1 : (-99999 : Int32).toInt = -99999 := by decide
  have e2 : (99999 : Int32).toInt = 99999 := by decide
  have e0 : (0 : Int32).toInt = 0 := by decide
  have e3 := nI_toInt (n := r) (by omega)
  have hs : (nI r - v).toInt = (nI r).toInt - v.toInt := by
    rw [Int32.toInt_sub]
    unfold Int.bmod
    dsimp only
    split <;> omega
  apply Int32.toInt_inj.mp
  rw [nI_toInt (n := od v (nI r)) (by omega)]
  by_cases h : 0 ≤ nI r - v
  · rw [if_pos h, hs]
    rw [Int32.le_iff_toInt_le, e0, hs] at h
    unfold od
    omega
  · rw [if_neg h, Int32.toInt_sub, hs, e0]
    rw [Int32.le_iff_toInt_le, e0, hs] at h
    unfold od
    unfold Int.bmod
    dsimp only
    split <;> omega
theorem lI_add (x y : Nat) : Int64.ofNat x + Int64.ofNat y = Int64.ofNat (x + y) := (Int64.ofNat_add x y).symm
/-- how far apart, over some weeks -/
def ad (ce f : Fl) (a g k : Nat) : Nat := if ce (24 * a + k) = -1000000005 then 0 else od (ce (24 * a + k)) (weks k f (45 + 5 * g + 3))
def aps (ce f : Fl) (a g : Nat) : Nat → Nat
  | 0 => 0
  | k + 1 => aps ce f a g k + ad ce f a g k
theorem ad_le {ce f : Fl} {c c8 k : Nat} (hC : CQ ce) (hW : Wq f c c8) (ha : a < 4) (hg : g < 12) (hk : k < 24) : ad ce f a g k ≤ 100012 := by
  unfold ad
  split
  · omega
  · rename_i h
    obtain ⟨r, hr, e⟩ := (Wq.weks k _ hW).2.2.2.2.2 g hg
    rw [e]
    exact od_le ((hC (24 * a + k) (by omega)).elim (fun z => absurd z h) id) hr
theorem aps_le {ce f : Fl} {c c8 : Nat} (hC : CQ ce) (hW : Wq f c c8) (ha : a < 4) (hg : g < 12) : ∀ k, k ≤ 24 → aps ce f a g k ≤ 100012 * k
  | 0, _ => Nat.zero_le _
  | k + 1, hk => by
    have h1 := aps_le hC hW ha hg k (by omega)
    have h2 := ad_le (k := k) hC hW ha hg (by omega)
    show aps ce f a g k + ad ce f a g k ≤ _
    omega
abbrev msg (f : Fl) (g m : Nat) : Fl := upd f (45 + 5 * g + 2) (nI m)
theorem msg_Q {f : Fl} {c c8 m : Nat} (h : Wq f c c8) (hg : g < 12) : Wq (msg f g m) c c8 := h.keep (upd_ne (by omega)) (upd_ne (by omega)) (fun k hk => upd_ne (by omega)) (fun q hq => by rw [msg, upd_ne (by omega)]; exact h.2.2.2.2.2 q hq)
theorem msg_W {f : Fl} {c c8 m : Nat} (h : Wr f c c8) (hg : g < 12) (hm : m ≤ 50) : Wr (msg f g m) c c8 := by
  refine ⟨msg_Q h.1 hg, fun q hq => ?_, by rw [msg, upd_ne (by omega)]; exact h.2.2.1, by rw [msg, upd_ne (by omega)]; exact h.2.2.2⟩
  by_cases e : q = g
  · subst e; exact ⟨m, hm, upd_eq⟩
  · rw [msg, upd_ne (by omega)]; exact h.2.1 q hq
theorem l8_off {s : Sn} {f p : Fl} {n c c8 : Nat} {mm : Int32} (hC : CQ (s.1 (41, 14, 0))) (ha : a < 4) (hg : g < 12) (hn : n ≤ 24) (hsi : (s.1 (41, 13, 0)) a = nI n) (hW : Wq p c c8) (hf : ∀ q, 105 ≤ q → p q = f q) : ∀ k, k ≤ n → ∀ s1 : Sn, s1.1 (41, 0, 0) = weks k p → BE s1 f → Fr XW s s1 → ∀ c7 c8l c9, Wp (d + 5) MX8_offBy 13 [some (vR 40 0 0), some (vI (nI a)), some (vI (nI g)), some (vI mm), some (vL (Int64.ofNat (aps (s.1 (41, 14, 0)) p a g k))), none, some (vI (nI k)), c7, c8l, c9] [] (hN s1) (Pl fun z t => z = Int64.ofNat (aps (s.1 (41, 14, 0)) p a g n) ∧ t.1 (41, 0, 0) = f ∧ Fr XW s t) := by
  refine ind_up (fun k hk ih => ?_)
  intro s1 e1 hB hF c7 c8l c9
  have hWk := Wq.weks k _ hW
  refine wp_iload dX8_offBy_13 rfl rfl ?_
  refine wp_aload_n dX8_offBy_15 rfl rfl ?_
  refine wn_getR dX8_offBy_16 fRX8_51 o40 rfl rfl rfl ?_
  refine wp_iload_n dX8_offBy_19 rfl rfl ?_
  refine wn_iald dX8_offBy_20 (o41 13 rfl) rfl (nIx rfl (by omega)) (show a < 4 from ha) rfl ?_
  rw [hF.1 (41, 13, 0) (by decide), hsi]
  refine wp_icmp_ge (t := 92) dX8_offBy_21 rfl rfl (fun h21 => ?_) (fun h21 => ?_)
  · have hk2 : k = n := by have := (nI_leI (by omega) (by omega)).mp h21; omega
    subst hk2
    refine wp_aload_n dX8_offBy_92 rfl rfl ?_
    refine wn_callV0n dX8_offBy_93 rRX8_159 (rcv_of o40 rfl) (Nat.le_of_ble_eq_true rfl)  (Nat.le_of_ble_eq_true rfl) rfl (c8_putsBack hB (fun q hq => by rw [e1, weks_hi hq k _ hW]; exact hf q hq)) (fun s93 hq93 => ?_)
    obtain ⟨e93, hF93⟩ := hq93
    refine wp_lload dX8_offBy_96 rfl rfl ?_
    refine wp_lret dX8_offBy_98 rfl ?_
    exact ⟨_, _, rfl, rfl, rfl, e93, hF.tr (hF93.wd X0_W)⟩
  · have hl : k < n := by have := mt (nI_leI (by omega) (by omega)).mpr h21; omega
    obtain ⟨r, hr13, hr⟩ := hWk.2.2.2.2.2 g hg
    refine wp_aload_n dX8_offBy_24 rfl rfl ?_
    refine wn_getR dX8_offBy_25 fRX8_54 o40 rfl rfl rfl ?_
    refine wp_bipush (v := 24) dX8_offBy_28 (by decide) rfl ?_
    refine wp_iload_n dX8_offBy_30 rfl rfl ?_
    refine wp_imul dX8_offBy_31 rfl ?_
    refine wp_iload dX8_offBy_32 rfl rfl ?_
    refine wp_iadd dX8_offBy_34 rfl ?_
    refine wn_iald dX8_offBy_35 (o41 14 rfl) rfl (nIx ix_24 (by omega)) (by show _ < 96; omega) rfl ?_
    rw [hF.1 (41, 14, 0) (by decide)]
    refine wp_istore (l' := [_, _, _, _, _, _, _, some _, _, _]) dX8_offBy_36 rfl rfl ?_
    refine wp_iload dX8_offBy_38 rfl rfl ?_
    refine wp_i2l dX8_offBy_40 rfl ?_
    refine wp_aload_n dX8_offBy_41 rfl rfl ?_
    refine wp_iload_n dX8_offBy_42 rfl rfl ?_
    refine wp_iconst (v := 3) dX8_offBy_43 (by decide) rfl ?_
    refine wn_callV2d dX8_offBy_44 rRX8_93 (rcv_of o40 rfl) (Nat.le_of_ble_eq_true rfl) rfl rfl (Nat.le_of_ble_eq_true rfl) rfl (c8_of (j := g) (w := 3) hg (by decide)) ?_
    rw [e1, hr]
    refine wp_i2l dX8_offBy_47 rfl ?_
    refine wp_lsub dX8_offBy_48 rfl ?_
    refine wp_lstore (l' := [_, _, _, _, _, _, _, _, some _, none]) dX8_offBy_49 rfl rfl ?_
    refine wp_lload dX8_offBy_51 rfl rfl ?_
    refine wp_iload dX8_offBy_53 rfl rfl ?_
    refine wp_ldc dX8_offBy_55 kRX8_149 rfl ?_
    refine wp_icmp_ne (t := 64) dX8_offBy_57 rfl rfl (fun h57 => ?_) (fun h57 => ?_)
    · have hv := (hC (24 * a + k) (by omega)).elim (fun z => absurd z h57) id
      refine wp_lload dX8_offBy_64 rfl rfl ?_
      refine wp_lconst dX8_offBy_66 rfl ?_
      refine wp_lcmp dX8_offBy_67 rfl ?_
      refine wp_if_ge (t := 77) dX8_offBy_68 rfl rfl (fun h68 => ?_) (fun h68 => ?_)
      · refine wp_lload dX8_offBy_77 rfl rfl ?_
        refine wp_ladd dX8_offBy_79 rfl ?_
        refine wp_lstore (l' := [_, _, _, _, some _, none, _, _, _, _]) dX8_offBy_80 rfl rfl ?_
        refine wp_aload_n dX8_offBy_82 rfl rfl ?_
        refine wn_callV0n dX8_offBy_83 rRX8_143 (rcv_of o40 rfl) (Nat.le_of_ble_eq_true rfl)  (Nat.le_of_ble_eq_true rfl) rfl (c8_week (c := c) (c8 := c8) (by rw [e1]; exact hWk)) (fun s83 hq83 => ?_)
        obtain ⟨e83, hF83⟩ := hq83
        refine wp_iinc (l' := [_, _, _, _, _, _, some _, _, _, _]) (v := 1) dX8_offBy_86 rfl (by decide) rfl rfl ?_
        refine wp_goto (t := 13) dX8_offBy_89 rfl ?_
        rw [nI_1]
        have hs : aps (s.1 (41, 14, 0)) p a g (k + 1) = aps (s.1 (41, 14, 0)) p a g k + od ((s.1 (41, 14, 0)) (24 * a + k)) (nI r) := by show _ + _ = _; rw [show ad (s.1 (41, 14, 0)) p a g k = od ((s.1 (41, 14, 0)) (24 * a + k)) (nI r) from by rw [ad, if_neg h57, hr]]
        rw [od_ge hv hr13 h68]
        have h := ih hl s83 (by rw [e83, e1, weks_s]) (hB.fr hF83 (by decide)) (hF.tr hF83) (some (vI ((s.1 (41, 14, 0)) (24 * a + k)))) (some (vL (Int64.ofNat (od ((s.1 (41, 14, 0)) (24 * a + k)) (nI r))))) none
        rw [hs] at h
        rw [lI_add]
        exact h
      · refine wp_lload dX8_offBy_71 rfl rfl ?_
        refine wp_lneg dX8_offBy_73 rfl ?_
        refine wp_goto (t := 79) dX8_offBy_74 rfl ?_
        refine wp_ladd dX8_offBy_79 rfl ?_
        refine wp_lstore (l' := [_, _, _, _, some _, none, _, _, _, _]) dX8_offBy_80 rfl rfl ?_
        refine wp_aload_n dX8_offBy_82 rfl rfl ?_
        refine wn_callV0n dX8_offBy_83 rRX8_143 (rcv_of o40 rfl) (Nat.le_of_ble_eq_true rfl)  (Nat.le_of_ble_eq_true rfl) rfl (c8_week (c := c) (c8 := c8) (by rw [e1]; exact hWk)) (fun s83 hq83 => ?_)
        obtain ⟨e83, hF83⟩ := hq83
        refine wp_iinc (l' := [_, _, _, _, _, _, some _, _, _, _]) (v := 1) dX8_offBy_86 rfl (by decide) rfl rfl ?_
        refine wp_goto (t := 13) dX8_offBy_89 rfl ?_
        rw [nI_1]
        have hs : aps (s.1 (41, 14, 0)) p a g (k + 1) = aps (s.1 (41, 14, 0)) p a g k + od ((s.1 (41, 14, 0)) (24 * a + k)) (nI r) := by show _ + _ = _; rw [show ad (s.1 (41, 14, 0)) p a g k = od ((s.1 (41, 14, 0)) (24 * a + k)) (nI r) from by rw [ad, if_neg h57, hr]]
        rw [od_lt hv hr13 h68]
        have h := ih hl s83 (by rw [e83, e1, weks_s]) (hB.fr hF83 (by decide)) (hF.tr hF83) (some (vI ((s.1 (41, 14, 0)) (24 * a + k)))) (some (vL (((s.1 (41, 14, 0)) (24 * a + k)).toInt64 - (nI r).toInt64))) none
        rw [hs] at h
        rw [lI_add]
        exact h
    · refine wp_lconst dX8_offBy_60 rfl ?_
      refine wp_goto (t := 79) dX8_offBy_61 rfl ?_
      refine wp_ladd dX8_offBy_79 rfl ?_
      refine wp_lstore (l' := [_, _, _, _, some _, none, _, _, _, _]) dX8_offBy_80 rfl rfl ?_
      refine wp_aload_n dX8_offBy_82 rfl rfl ?_
      refine wn_callV0n dX8_offBy_83 rRX8_143 (rcv_of o40 rfl) (Nat.le_of_ble_eq_true rfl)  (Nat.le_of_ble_eq_true rfl) rfl (c8_week (c := c) (c8 := c8) (by rw [e1]; exact hWk)) (fun s83 hq83 => ?_)
      obtain ⟨e83, hF83⟩ := hq83
      refine wp_iinc (l' := [_, _, _, _, _, _, some _, _, _, _]) (v := 1) dX8_offBy_86 rfl (by decide) rfl rfl ?_
      refine wp_goto (t := 13) dX8_offBy_89 rfl ?_
      rw [nI_1]
      have hs : aps (s.1 (41, 14, 0)) p a g (k + 1) = aps (s.1 (41, 14, 0)) p a g k + 0 := by show _ + _ = _; rw [show ad (s.1 (41, 14, 0)) p a g k = 0 from if_pos h57]
      have h := ih hl s83 (by rw [e83, e1, weks_s]) (hB.fr hF83 (by decide)) (hF.tr hF83) (some (vI ((s.1 (41, 14, 0)) (24 * a + k)))) (some (vL (((s.1 (41, 14, 0)) (24 * a + k)).toInt64 - (nI r).toInt64))) none
      rw [hs] at h
      rw [lI_add]
      exact h
theorem c8_offBy {s : Sn} {f : Fl} {n c c8 m : Nat} (hC : CQ (s.1 (41, 14, 0))) (ha : a < 4) (hg : g < 12) (hn : n ≤ 24) (hsi : (s.1 (41, 13, 0)) a = nI n) (hB : BE s f) (h0 : s.1 (41, 0, 0) = f) (hW : Wq f c c8) : Ca (d + 5) MX8_offBy [vR 40 0 0, vI (nI a), vI (nI g), vI (nI m)] (hN s) (Pl fun z t => z = Int64.ofNat (aps (s.1 (41, 14, 0)) (msg f g m) a g n) ∧ t.1 (41, 0, 0) = f ∧ Fr XW s t) := by
  change Wp _ _ 0 [some _, some _, some _, some _, none, none, none, none, none, none] [] _ _
  refine wp_aload_n dX8_offBy_0 rfl rfl ?_
  refine wp_iload_n dX8_offBy_1 rfl rfl ?_
  refine wp_iconst (v := 2) dX8_offBy_2 (by decide) rfl ?_
  refine wp_iload_n dX8_offBy_3 rfl rfl ?_
  refine wn_callV3n dX8_offBy_4 rRX8_79 (rcv_of o40 rfl) (Nat.le_of_ble_eq_true rfl) rfl rfl rfl (Nat.le_of_ble_eq_true rfl) rfl (c8_put (j := g) (w := 2) (v := nI m) hg (by decide)) (fun s4 hq4 => ?_)
  subst hq4
  refine wp_lconst dX8_offBy_7 rfl ?_
  refine wp_lstore (l' := [_, _, _, _, some _, none, _, _, _, _]) dX8_offBy_8 rfl rfl ?_
  refine wp_iconst (v := 0) dX8_offBy_10 (by decide) rfl ?_
  refine wp_istore (l' := [_, _, _, _, _, _, some _, _, _, _]) dX8_offBy_11 rfl rfl ?_
  have e14 : (sI s (41, 0, 0) (45 + 5 * g + 2) (nI m)).1 (41, 14, 0) = (s.1 (41, 14, 0)) := sI_nr (by decide)
  have e13 : (sI s (41, 0, 0) (45 + 5 * g + 2) (nI m)).1 (41, 13, 0) = (s.1 (41, 13, 0)) := sI_nr (by decide)
  have hF0 : Fr XW s (sI s (41, 0, 0) (45 + 5 * g + 2) (nI m)) := Fr.rf.pt (by decide)
  refine (l8_off (d := d) (s := sI s (41, 0, 0) (45 + 5 * g + 2) (nI m)) (f := f) (p := msg f g m) (c := c) (c8 := c8) (by rw [e14]; exact hC) ha hg hn (by rw [e13]; exact hsi) (msg_Q hW hg) (fun q hq => upd_ne (by omega)) 0 (Nat.zero_le _) _ (by rw [sI_row, h0]; rfl) (hB.fr hF0 (by decide)) Fr.rf none none none).conseq ?_
  rintro v σ ⟨z, t, rfl, rfl, q1, q2, q3⟩
  rw [e14] at q1
  exact ⟨z, t, rfl, rfl, q1, q2, hF0.tr q3⟩
abbrev apm (ce f : Fl) (a g n : Nat) (j : Nat) : Nat := aps ce (msg f g (1 + 5 * j)) a g n
/-- the best of masses, and how far apart with it -/
def lk (v : Nat → Nat) : Nat → Nat × Nat
  | 0 => (1, v 0)
  | j + 1 => if v (j + 1) < (lk v j).2 then (1 + 5 * (j + 1), v (j + 1)) else lk v j
theorem lk_y {v : Nat → Nat} {j : Nat} (h : v (j + 1) < (lk v j).2) : lk v (j + 1) = (1 + 5 * (j + 1), v (j + 1)) := if_pos h
theorem lk_n {v : Nat → Nat} {j : Nat} (h : ¬ v (j + 1) < (lk v j).2) : lk v (j + 1) = lk v j := if_neg h
theorem lk_le {v : Nat → Nat} {b : Nat} (h : ∀ j, v j ≤ b) : ∀ j, (lk v j).2 ≤ b
  | 0 => h 0
  | j + 1 => by
    by_cases e : v (j + 1) < (lk v j).2
    · rw [lk_y e]; exact h _
    · rw [lk_n e]; exact lk_le h j
abbrev loO (c : Nat) (x y z : Int32) : Prop := (0 ≤ x ∧ x ≤ 3) ∧ (0 ≤ y ∧ y ≤ nI c - 1) ∧ (0 ≤ z ∧ z ≤ 1)
def loA (f so si ce : Fl) (c : Nat) (x y z : Int32) : Int32 := if loO c x y z then (if so x.toNatClampNeg < 0 then -1000000011 else if z = 0 then nI (lk (apm ce f x.toNatClampNeg y.toNatClampNeg (si x.toNatClampNeg).toNatClampNeg) 9).1 else nI (lk (apm ce f x.toNatClampNeg y.toNatClampNeg (si x.toNatClampNeg).toNatClampNeg) 9).2) else -1000000001
theorem lo_g {f so si ce : Fl} {c : Nat} {y z : Int32} (ha : a < 4) (h : loO c (nI a) y z) (h2 : so a < 0) : loA f so si ce c (nI a) y z = -1000000011 := by
  unfold loA
  rw [if_pos h, nI_clamp (by omega), if_pos h2]
theorem lo_y {f so si ce : Fl} {c n : Nat} {z : Int32} (ha : a < 4) (hg : g < 12) (h : loO c (nI a) (nI g) z) (h2 : ¬ so a < 0) (hn : n ≤ 24) (hs : si a = nI n) : loA f so si ce c (nI a) (nI g) z = if z = 0 then nI (lk (apm ce f a g n) 9).1 else nI (lk (apm ce f a g n) 9).2 := by
  unfold loA
  rw [if_pos h, nI_clamp (show a < 2 ^ 31 by omega), nI_clamp (show g < 2 ^ 31 by omega), if_neg h2, hs, nI_clamp (by omega)]
theorem lI_lt {x y : Nat} (hx : x < 2 ^ 31) (hy : y < 2 ^ 31) : 0 ≤ lg_cmp (Int64.ofNat x) (Int64.ofNat y) ↔ y ≤ x := by
  rw [lg_cmp_ge, Int64.le_iff_toInt_le, Int64.toInt_ofNat_of_lt (by omega), Int64.toInt_ofNat_of_lt (by omega)]
  omega
theorem ms5 {j : Nat} : nI (1 + 5 * j) + 5 = nI (1 + 5 * (j + 1)) := by rw [show (5 : Int32) = nI 5 from rfl, nI_add, show 1 + 5 * j + 5 = 1 + 5 * (j + 1) by omega]
theorem lI_I {x : Nat} : (Int64.ofNat x).toInt32 = nI x := Int64.toInt32_ofNat'
theorem l8_lo {s : Sn} {n c c8 : Nat} {z : Int32} (hC : CQ (s.1 (41, 14, 0))) (ha : a < 4) (hg : g < 12) (hn : n ≤ 24) (hsi : (s.1 (41, 13, 0)) a = nI n) (hW : Wq (s.1 (41, 0, 0)) c c8) : ∀ j, j ≤ 9 → ∀ s1 : Sn, s1.1 (41, 0, 0) = (s.1 (41, 0, 0)) → BE s1 (s.1 (41, 0, 0)) → Fr XB s s1 → ∀ c8l c9, Wp (d + 6) MX8_looked 59 [some (vR 40 0 0), some (vI (nI a)), some (vI (nI g)), some (vI z), some (vI (nI (lk (apm (s.1 (41, 14, 0)) (s.1 (41, 0, 0)) a g n) j).1)), some (vL (Int64.ofNat (lk (apm (s.1 (41, 14, 0)) (s.1 (41, 0, 0)) a g n) j).2)), none, some (vI (nI (1 + 5 * (j + 1)))), c8l, c9] [] (hN s1) (Pv fun q t => q = (if z = 0 then nI (lk (apm (s.1 (41, 14, 0)) (s.1 (41, 0, 0)) a g n) 9).1 else nI (lk (apm (s.1 (41, 14, 0)) (s.1 (41, 0, 0)) a g n) 9).2) ∧ t.1 (41, 0, 0) = (s.1 (41, 0, 0)) ∧ Fr XB s t) := by
  have hb : ∀ j, (apm (s.1 (41, 14, 0)) (s.1 (41, 0, 0)) a g n) j ≤ 2400288 := fun j => Nat.le_trans (aps_le hC (msg_Q hW hg) ha hg n hn) (by omega)
  refine ind_up (fun j hj ih => ?_)
  intro s1 e1 hB hF c8l c9
  have hl2 := lk_le hb j
  have hv := hb (j + 1)
  have hvE : (apm (s.1 (41, 14, 0)) (s.1 (41, 0, 0)) a g n) (j + 1) = aps (s.1 (41, 14, 0)) (msg (s.1 (41, 0, 0)) g (1 + 5 * (j + 1))) a g n := rfl
  refine wp_iload dX8_looked_59 rfl rfl ?_
  refine wp_bipush (v := 47) dX8_looked_61 (by decide) rfl ?_
  refine wp_icmp_ge (t := 116) dX8_looked_63 rfl rfl (fun h63 => ?_) (fun h63 => ?_)
  · have hj9 : j = 9 := by have := (nI_leI (a := 47) (by omega) (by omega)).mp h63; omega
    subst hj9
    refine wp_iload_n dX8_looked_116 rfl rfl ?_
    refine wp_if_ne (t := 125) dX8_looked_117 rfl rfl (fun h117 => ?_) (fun h117 => ?_)
    · refine wp_lload dX8_looked_125 rfl rfl ?_
      refine wp_l2i dX8_looked_127 rfl ?_
      refine wp_iret dX8_looked_128 rfl rfl ?_
      refine ⟨_, _, rfl, rfl, ?_, e1, hF⟩
      rw [if_neg h117, lI_I]
    · refine wp_iload dX8_looked_120 rfl rfl ?_
      refine wp_goto (t := 128) dX8_looked_122 rfl ?_
      refine wp_iret dX8_looked_128 rfl rfl ?_
      refine ⟨_, _, rfl, rfl, ?_, e1, hF⟩
      rw [if_pos h117]
  · have hl : j < 9 := by have := mt (nI_leI (a := 47) (by omega) (by omega)).mpr h63; omega
    refine wp_aload_n dX8_looked_66 rfl rfl ?_
    refine wp_iload_n dX8_looked_67 rfl rfl ?_
    refine wp_iload_n dX8_looked_68 rfl rfl ?_
    refine wp_iload dX8_looked_69 rfl rfl ?_
    refine wn_callV3l dX8_looked_71 rRX8_172 (rcv_of o40 rfl) (Nat.le_of_ble_eq_true rfl) rfl rfl rfl (Nat.le_of_ble_eq_true rfl) rfl (c8_offBy (f := (s.1 (41, 0, 0))) (c := c) (c8 := c8) (n := n) (m := 1 + 5 * (j + 1)) (by rw [hF.1 (41, 14, 0) (by decide)]; exact hC) ha hg hn (by rw [hF.1 (41, 13, 0) (by decide)]; exact hsi) hB e1 hW) (fun x71 s71 hq71 => ?_)
    obtain ⟨e71, r71, hF71⟩ := hq71
    rw [hF.1 (41, 14, 0) (by decide)] at e71
    subst e71
    refine wp_lstore (l' := [_, _, _, _, _, _, _, _, some _, none]) dX8_looked_74 rfl rfl ?_
    refine wp_lload dX8_looked_76 rfl rfl ?_
    refine wp_lload dX8_looked_78 rfl rfl ?_
    refine wp_lcmp dX8_looked_80 rfl ?_
    refine wp_if_ge (t := 89) dX8_looked_81 rfl rfl (fun h81 => ?_) (fun h81 => ?_)
    · refine wp_iload dX8_looked_89 rfl rfl ?_
      refine wp_istore (l' := [_, _, _, _, some _, _, _, _, _, _]) dX8_looked_91 rfl rfl ?_
      refine wp_lload dX8_looked_93 rfl rfl ?_
      refine wp_lload dX8_looked_95 rfl rfl ?_
      refine wp_lcmp dX8_looked_97 rfl ?_
      refine wp_if_ge (t := 106) dX8_looked_98 rfl rfl (fun h98 => ?_) (fun h98 => absurd h81 h98)
      refine wp_lload dX8_looked_106 rfl rfl ?_
      refine wp_lstore (l' := [_, _, _, _, _, some _, none, _, _, _]) dX8_looked_108 rfl rfl ?_
      refine wp_iinc (l' := [_, _, _, _, _, _, _, some _, _, _]) (v := 5) dX8_looked_110 rfl (by decide) rfl rfl ?_
      refine wp_goto (t := 59) dX8_looked_113 rfl ?_
      rw [ms5]
      have h := ih hl s71 r71 (hB.fr hF71 (by decide)) (hF.tr (hF71.wd XW_B)) (some (vL (Int64.ofNat ((apm (s.1 (41, 14, 0)) (s.1 (41, 0, 0)) a g n) (j + 1))))) none
      rw [lk_n (show ¬ (apm (s.1 (41, 14, 0)) (s.1 (41, 0, 0)) a g n) (j + 1) < (lk (apm (s.1 (41, 14, 0)) (s.1 (41, 0, 0)) a g n) j).2 from fun q => absurd ((lI_lt (by omega) (by omega)).mp h81) (by omega))] at h
      exact h
    · refine wp_iload dX8_looked_84 rfl rfl ?_
      refine wp_goto (t := 91) dX8_looked_86 rfl ?_
      refine wp_istore (l' := [_, _, _, _, some _, _, _, _, _, _]) dX8_looked_91 rfl rfl ?_
      refine wp_lload dX8_looked_93 rfl rfl ?_
      refine wp_lload dX8_looked_95 rfl rfl ?_
      refine wp_lcmp dX8_looked_97 rfl ?_
      refine wp_if_ge (t := 106) dX8_looked_98 rfl rfl (fun h98 => absurd h98 h81) (fun h98 => ?_)
      refine wp_lload dX8_looked_101 rfl rfl ?_
      refine wp_goto (t := 108) dX8_looked_103 rfl ?_
      refine wp_lstore (l' := [_, _, _, _, _, some _, none, _, _, _]) dX8_looked_108 rfl rfl ?_
      refine wp_iinc (l' := [_, _, _, _, _, _, _, some _, _, _]) (v := 5) dX8_looked_110 rfl (by decide) rfl rfl ?_
      refine wp_goto (t := 59) dX8_looked_113 rfl ?_
      rw [ms5]
      have h := ih hl s71 r71 (hB.fr hF71 (by decide)) (hF.tr (hF71.wd XW_B)) (some (vL (Int64.ofNat ((apm (s.1 (41, 14, 0)) (s.1 (41, 0, 0)) a g n) (j + 1))))) none
      rw [lk_y (show (apm (s.1 (41, 14, 0)) (s.1 (41, 0, 0)) a g n) (j + 1) < (lk (apm (s.1 (41, 14, 0)) (s.1 (41, 0, 0)) a g n) j).2 from by have := mt (lI_lt (by omega) (by omega)).mpr h81; omega)] at h
      exact h
theorem c8_looked {s : Sn} {c c8 : Nat} {x y z : Int32} (hQ : SQ (s.1 (41, 12, 0)) (s.1 (41, 13, 0))) (hC : CQ (s.1 (41, 14, 0))) (hW : Wq (s.1 (41, 0, 0)) c c8) : Ca (d + 6) MX8_looked [vR 40 0 0, vI x, vI y, vI z] (hN s) (Pv fun q t => q = loA (s.1 (41, 0, 0)) (s.1 (41, 12, 0)) (s.1 (41, 13, 0)) (s.1 (41, 14, 0)) c x y z ∧ t.1 (41, 0, 0) = (s.1 (41, 0, 0)) ∧ Fr XB s t) := by
  change Wp _ _ 0 [some _, some _, some _, some _, none, none, none, none, none, none] [] _ _
  refine wp_iload_n dX8_looked_0 rfl rfl ?_
  refine wn_callS1d dX8_looked_1 rRX8_168 (Nat.le_of_ble_eq_true rfl) rfl (Nat.le_of_ble_eq_true rfl) rfl (c8_isSheet) ?_
  refine wp_if_eq_b (t := 24) dX8_looked_4 rfl rfl (fun h4 => ?_) (fun h4 => ?_)
  · refine wp_ldc dX8_looked_24 kRX8_83 rfl ?_
    refine wp_iret dX8_looked_26 rfl rfl ?_
    exact ⟨_, _, rfl, rfl, (if_neg (fun q => h4 q.1)).symm, rfl, Fr.rf⟩
  · refine wp_aload_n dX8_looked_7 rfl rfl ?_
    refine wp_iload_n dX8_looked_8 rfl rfl ?_
    refine wn_callV1d dX8_looked_9 rRX8_103 (rcv_of o40 rfl) (Nat.le_of_ble_eq_true rfl) rfl (Nat.le_of_ble_eq_true rfl) rfl (c8_isLog) ?_
    rw [hW.1]
    refine wp_if_eq_b (t := 24) dX8_looked_12 rfl rfl (fun h12 => ?_) (fun h12 => ?_)
    · refine wp_ldc dX8_looked_24 kRX8_83 rfl ?_
      refine wp_iret dX8_looked_26 rfl rfl ?_
      exact ⟨_, _, rfl, rfl, (if_neg (fun q => h12 q.2.1)).symm, rfl, Fr.rf⟩
    · refine wp_iload_n dX8_looked_15 rfl rfl ?_
      refine wp_iconst (v := 0) dX8_looked_16 (by decide) rfl ?_
      refine wp_iconst (v := 1) dX8_looked_17 (by decide) rfl ?_
      refine wn_callS3d dX8_looked_18 rRX8_75 (Nat.le_of_ble_eq_true rfl) rfl rfl rfl (Nat.le_of_ble_eq_true rfl) rfl (c8_in) ?_
      refine wp_if_ne_b (t := 27) dX8_looked_21 rfl rfl (fun h21 => ?_) (fun h21 => ?_)
      · obtain ⟨a, ha, rfl⟩ := sht h4
        obtain ⟨g, hgc, rfl⟩ := log_nat hW.2.1 h12
        have hg : g < 12 := by have := hW.2.1; omega
        obtain ⟨hs, n, hn, hsi⟩ := hQ a ha
        refine wp_aload_n dX8_looked_27 rfl rfl ?_
        refine wn_getR dX8_looked_28 fRX8_48 o40 rfl rfl rfl ?_
        refine wp_iload_n dX8_looked_31 rfl rfl ?_
        refine wn_iald dX8_looked_32 (o41 12 rfl) rfl (nIx rfl (by omega)) (show a < 4 from ha) rfl ?_
        refine wp_if_ge (t := 39) dX8_looked_33 rfl rfl (fun h33 => ?_) (fun h33 => ?_)
        · refine wp_aload_n dX8_looked_39 rfl rfl ?_
          refine wn_callV0n dX8_looked_40 rRX8_156 (rcv_of o40 rfl) (Nat.le_of_ble_eq_true rfl)  (Nat.le_of_ble_eq_true rfl) rfl (c8_thinks rfl) (fun s40 hq40 => ?_)
          obtain ⟨hB40, hF40⟩ := hq40
          have e40 := hF40.1 (41, 0, 0) (by decide)
          refine wp_iconst (v := 1) dX8_looked_43 (by decide) rfl ?_
          refine wp_istore (l' := [_, _, _, _, some _, _, _, _, _, _]) dX8_looked_44 rfl rfl ?_
          refine wp_aload_n dX8_looked_46 rfl rfl ?_
          refine wp_iload_n dX8_looked_47 rfl rfl ?_
          refine wp_iload_n dX8_looked_48 rfl rfl ?_
          refine wp_iconst (v := 1) dX8_looked_49 (by decide) rfl ?_
          refine wn_callV3l dX8_looked_50 rRX8_172 (rcv_of o40 rfl) (Nat.le_of_ble_eq_true rfl) rfl rfl rfl (Nat.le_of_ble_eq_true rfl) rfl (c8_offBy (f := (s.1 (41, 0, 0))) (c := c) (c8 := c8) (n := n) (m := 1) (by rw [hF40.1 (41, 14, 0) (by decide)]; exact hC) ha hg hn (by rw [hF40.1 (41, 13, 0) (by decide)]; exact hsi) hB40 e40 hW) (fun x50 s50 hq50 => ?_)
          obtain ⟨e50, r50, hF50⟩ := hq50
          rw [hF40.1 (41, 14, 0) (by decide)] at e50
          subst e50
          refine wp_lstore (l' := [_, _, _, _, _, some _, none, _, _, _]) dX8_looked_53 rfl rfl ?_
          refine wp_bipush (v := 6) dX8_looked_55 (by decide) rfl ?_
          refine wp_istore (l' := [_, _, _, _, _, _, _, some _, _, _]) dX8_looked_57 rfl rfl ?_
          rw [lo_y ha hg ⟨h4, h12, h21⟩ (Int32.not_lt.mpr h33) hn hsi]
          exact l8_lo hC ha hg hn hsi hW 0 (Nat.zero_le _) s50 r50 (hB40.fr hF50 (by decide)) ((hF40.wd X3_B).tr (hF50.wd XW_B)) none none
        · refine wp_ldc dX8_looked_36 kRX8_171 rfl ?_
          refine wp_iret dX8_looked_38 rfl rfl ?_
          exact ⟨_, _, rfl, rfl, (lo_g ha ⟨h4, h12, h21⟩ (Int32.not_le.mp h33)).symm, rfl, Fr.rf⟩
      · refine wp_ldc dX8_looked_24 kRX8_83 rfl ?_
        refine wp_iret dX8_looked_26 rfl rfl ?_
        exact ⟨_, _, rfl, rfl, (if_neg (fun q => h21 q.2.2)).symm, rfl, Fr.rf⟩
theorem l7_ap {s : Sn} {so si ce p : Fl} {n c c8 : Nat} {mm : Int32} (hS : SH s so si ce) (hC : CQ ce) (ha : a < 4) (hg : g < 12) (hgc : g < c) (hn : n ≤ 24) (hsi : si a = nI n) (hW : Wr p c c8) : ∀ k, k ≤ n → ∀ s1 : Sn, RVL s1 2 (weks k p) c c8 → FH s s1 → Wp (d + 5) MX7_apartWithMass 23 [some (vR 10 0 0), some (vR 28 a 0), some (vI (nI g)), some (vI mm), some (vI (nI (aps ce p a g k))), some (vI (nI k))] [] (hN s1) (Pv fun z t => z = nI (aps ce p a g n) ∧ FH s t) := by
  refine ind_up (fun k hk ih => ?_)
  intro s1 h1 hF
  have hWk := Wr.weks k _ hW
  have f28 : s1.1 (28, a, 0) = s.1 (28, a, 0) := hF.1 _ (fun q => by rcases q with q | q; exact absurd q (by show ¬ 28 = 36; decide); rcases q.2 with q | q | q | q | q | q <;> exact absurd q (by show ¬ 28 = _; decide))
  have f29 : s1.1 (29, a, 0) = s.1 (29, a, 0) := hF.1 _ (fun q => by rcases q with q | q; exact absurd q (by show ¬ 29 = 36; decide); rcases q.2 with q | q | q | q | q | q <;> exact absurd q (by show ¬ 29 = _; decide))
  obtain ⟨w1, w2, w3⟩ := hS a ha
  have hcn : cn (weks k p) = c := hWk.1.cn
  have hap := aps_le hC hW.1 ha hg k (by omega)
  refine wp_iload dX7_apartWithMass_23 rfl rfl ?_
  refine wp_aload_n dX7_apartWithMass_25 rfl rfl ?_
  refine wn_getI dX7_apartWithMass_26 fRX7_264 (o28 ha) rfl rfl ?_
  rw [f28, w2, hsi]
  refine wp_icmp_ge (t := 82) dX7_apartWithMass_29 rfl rfl (fun h29 => ?_) (fun h29 => ?_)
  · have hk2 : k = n := by have := (nI_leI (by omega) (by omega)).mp h29; omega
    subst hk2
    refine wp_iload dX7_apartWithMass_82 rfl rfl ?_
    refine wp_iret dX7_apartWithMass_84 rfl rfl ?_
    exact ⟨_, _, rfl, rfl, rfl, hF⟩
  · have hl : k < n := by have := mt (nI_leI (by omega) (by omega)).mpr h29; omega
    obtain ⟨r, hr13, hr⟩ := hWk.1.2.2.2.2.2 g hg
    refine wp_aload_n dX7_apartWithMass_32 rfl rfl ?_
    refine wp_iload dX7_apartWithMass_33 rfl rfl ?_
    refine wn_callV1d dX7_apartWithMass_35 rRX7_277 (rcv_of (o28 ha) rfl) (Nat.le_of_ble_eq_true rfl) rfl (Nat.le_of_ble_eq_true rfl) rfl (c4_hasNumber ha (by omega)) ?_
    rw [f28, w2, hsi, f29, w3 k (by omega)]
    refine wp_if_eq_b (t := 69) dX7_apartWithMass_38 rfl rfl (fun h38 => ?_) (fun h38 => ?_)
    · refine wp_aload_n dX7_apartWithMass_69 rfl rfl ?_
      refine wn_getR dX7_apartWithMass_70 fRX7_19 o10 rfl rfl rfl ?_
      refine wn_callV0n dX7_apartWithMass_73 rRX7_189 (rcv_of (o11 (by decide)) rfl) (Nat.le_of_ble_eq_true rfl)  (Nat.le_of_ble_eq_true rfl) rfl (c3_weekQ (by decide) (by decide) h1 hWk) (fun s73 hq73 => ?_)
      obtain ⟨h73, hF73⟩ := hq73
      refine wp_iinc (l' := [_, _, _, _, _, some _]) (v := 1) dX7_apartWithMass_76 rfl (by decide) rfl rfl ?_
      refine wp_goto (t := 23) dX7_apartWithMass_79 rfl ?_
      rw [nI_1]
      have h := ih hl s73 (by rw [← weks_s]; exact h73) (hF.tr hF73)
      have hs : aps ce p a g (k + 1) = aps ce p a g k := by show _ + _ = _; rw [show ad ce p a g k = 0 from if_pos (Decidable.not_not.mp (fun q => h38 ⟨(nI_ltI (by omega) (by omega)).mpr hl, q⟩)), Nat.add_zero]
      rw [hs] at h
      exact h
    · refine wp_iload dX7_apartWithMass_41 rfl rfl ?_
      refine wp_aload_n dX7_apartWithMass_43 rfl rfl ?_
      refine wn_getR dX7_apartWithMass_44 fRX7_19 o10 rfl rfl rfl ?_
      refine wn_getR dX7_apartWithMass_47 fRX7_80 (o11 (by decide)) rfl rfl rfl ?_
      refine wp_iload_n dX7_apartWithMass_50 rfl rfl ?_
      refine wn_aald13 dX7_apartWithMass_51 (by decide) (nIx rfl (by omega)) hg rfl ?_
      refine wn_getI dX7_apartWithMass_52 fRX7_95 (o12 (by decide) hg) rfl rfl ?_
      rw [show s1.1 (12, 2, g) 3 = nI r from (h1.1.1.lg (by omega) hg (by decide)).trans hr]
      refine wp_aload_n dX7_apartWithMass_55 rfl rfl ?_
      refine wn_getR dX7_apartWithMass_56 fRX7_272 (o28 ha) rfl rfl rfl ?_
      refine wp_iload dX7_apartWithMass_59 rfl rfl ?_
      refine wn_iald dX7_apartWithMass_61 (o29 ha) rfl (nIx rfl (by omega)) (show k < 24 by omega) rfl ?_
      rw [f29, w3 k (by omega)]
      refine wp_isub dX7_apartWithMass_62 rfl ?_
      refine wp_abs dX7_apartWithMass_63 rRX7_325 (by omega) (Nat.le_of_ble_eq_true rfl) rfl ?_
      rw [od_I ((hC (24 * a + k) (by omega)).elim (fun q => absurd q h38.2) id) hr13]
      refine wp_iadd dX7_apartWithMass_66 rfl ?_
      rw [nI_add]
      refine wp_istore (l' := [_, _, _, _, some _, _]) dX7_apartWithMass_67 rfl rfl ?_
      refine wp_aload_n dX7_apartWithMass_69 rfl rfl ?_
      refine wn_getR dX7_apartWithMass_70 fRX7_19 o10 rfl rfl rfl ?_
      refine wn_callV0n dX7_apartWithMass_73 rRX7_189 (rcv_of (o11 (by decide)) rfl) (Nat.le_of_ble_eq_true rfl)  (Nat.le_of_ble_eq_true rfl) rfl (c3_weekQ (by decide) (by decide) h1 hWk) (fun s73 hq73 => ?_)
      obtain ⟨h73, hF73⟩ := hq73
      refine wp_iinc (l' := [_, _, _, _, _, some _]) (v := 1) dX7_apartWithMass_76 rfl (by decide) rfl rfl ?_
      refine wp_goto (t := 23) dX7_apartWithMass_79 rfl ?_
      rw [nI_1]
      have h := ih hl s73 (by rw [← weks_s]; exact h73) (hF.tr hF73)
      have hs : aps ce p a g (k + 1) = aps ce p a g k + od (ce (24 * a + k)) (nI r) := by show _ + _ = _; rw [show ad ce p a g k = od (ce (24 * a + k)) (nI r) from by rw [ad, if_neg h38.2, hr]]
      rw [hs] at h
      exact h
theorem RV.ms {s : Sn} {f : Fl} {c : Nat} {v : Int32} (h : RV s i f c) : RV (sI s (12, i, g) 2 v) i (upd f (45 + 5 * g + 2) v) c := h.lg (by decide)
theorem c7_apart {s : Sn} {f so si ce : Fl} {n c c8 m : Nat} (h : RVL s 0 f c c8) (hS : SH s so si ce) (hC : CQ ce) (ha : a < 4) (hg : g < 12) (hgc : g < c) (hn : n ≤ 24) (hsi : si a = nI n) (hW : Wr f c c8) (hm : m ≤ 50) : Ca (d + 5) MX7_apartWithMass [vR 10 0 0, vR 28 a 0, vI (nI g), vI (nI m)] (hN s) (Pv fun z t => z = nI (aps ce (msg f g m) a g n) ∧ FH s t) := by
  change Wp _ _ 0 [some _, some _, some _, some _, none, none] [] _ _
  refine wp_aload_n dX7_apartWithMass_0 rfl rfl ?_
  refine wn_callV0n dX7_apartWithMass_1 rRX7_186 (rcv_of o10 rfl) (Nat.le_of_ble_eq_true rfl)  (Nat.le_of_ble_eq_true rfl) rfl (c7_startThought h hW.1.2.2.2.1) (fun s1 hq1 => ?_)
  obtain ⟨h1, hF1⟩ := hq1
  refine wp_aload_n dX7_apartWithMass_4 rfl rfl ?_
  refine wn_getR dX7_apartWithMass_5 fRX7_19 o10 rfl rfl rfl ?_
  refine wn_getR dX7_apartWithMass_8 fRX7_80 (o11 (by decide)) rfl rfl rfl ?_
  refine wp_iload_n dX7_apartWithMass_11 rfl rfl ?_
  refine wn_aald13 dX7_apartWithMass_12 (by decide) (nIx rfl (by omega)) hg rfl ?_
  refine wp_iload_n dX7_apartWithMass_13 rfl rfl ?_
  refine wn_putI dX7_apartWithMass_14 fRX7_92 (o12 (by decide) hg) rfl rfl rfl ?_
  refine wp_iconst (v := 0) dX7_apartWithMass_17 (by decide) rfl ?_
  refine wp_istore (l' := [_, _, _, _, some _, _]) dX7_apartWithMass_18 rfl rfl ?_
  refine wp_iconst (v := 0) dX7_apartWithMass_20 (by decide) rfl ?_
  refine wp_istore (l' := [_, _, _, _, _, some _]) dX7_apartWithMass_21 rfl rfl ?_
  have h14 := h1.up (h1.1.ms (g := g) (v := nI m)) (by omega) t12
  have hF14 : FH s (sI s1 (12, 2, g) 2 (nI m)) := hF1.pt q12
  have hS2 : SH (sI s1 (12, 2, g) 2 (nI m)) so si ce := fun b hb => by
    obtain ⟨w1, w2, w3⟩ := hS b hb
    rw [hF14.1 (28, b, 0) (fun q => by rcases q with q | q; exact absurd q (by show ¬ 28 = 36; decide); rcases q.2 with q | q | q | q | q | q <;> exact absurd q (by show ¬ 28 = _; decide)), hF14.1 (29, b, 0) (fun q => by rcases q with q | q; exact absurd q (by show ¬ 29 = 36; decide); rcases q.2 with q | q | q | q | q | q <;> exact absurd q (by show ¬ 29 = _; decide))]
    exact ⟨w1, w2, w3⟩
  refine (l7_ap (d := d) (p := msg f g m) hS2 hC ha hg hgc hn hsi (msg_W hW hg hm) 0 (Nat.zero_le _) _ h14 FH.rf).conseq ?_
  rintro v σ ⟨z, t, rfl, rfl, q1, q2⟩
  exact ⟨z, t, rfl, rfl, q1, hF14.tr q2⟩
theorem SH.fh {s t : Sn} {so si ce : Fl} (h : SH s so si ce) (hF : FH s t) : SH t so si ce := fun b hb => by
  obtain ⟨w1, w2, w3⟩ := h b hb
  rw [hF.1 (28, b, 0) (fun q => by rcases q with q | q; exact absurd q (by show ¬ 28 = 36; decide); rcases q.2 with q | q | q | q | q | q <;> exact absurd q (by show ¬ 28 = _; decide)), hF.1 (29, b, 0) (fun q => by rcases q with q | q; exact absurd q (by show ¬ 29 = 36; decide); rcases q.2 with q | q | q | q | q | q <;> exact absurd q (by show ¬ 29 = _; decide))]
  exact ⟨w1, w2, w3⟩
theorem l7_lo {s : Sn} {f so si ce : Fl} {n c c8 : Nat} {z : Int32} (h : RVL s 0 f c c8) (hS : SH s so si ce) (hC : CQ ce) (ha : a < 4) (hg : g < 12) (hgc : g < c) (hn : n ≤ 24) (hsi : si a = nI n) (hW : Wr f c c8) : ∀ j, j ≤ 9 → ∀ s1 : Sn, FH s s1 → ∀ c7, Wp (d + 6) MX7_looked 67 [some (vR 10 0 0), some (vI (nI a)), some (vI (nI g)), some (vI z), some (vI (nI (lk (apm ce f a g n) j).1)), some (vI (nI (lk (apm ce f a g n) j).2)), some (vI (nI (1 + 5 * (j + 1)))), c7] [] (hN s1) (Pv fun q t => q = (if z = 0 then nI (lk (apm ce f a g n) 9).1 else nI (lk (apm ce f a g n) 9).2) ∧ FH s t) := by
  have hb : ∀ j, (apm ce f a g n) j ≤ 2400288 := fun j => Nat.le_trans (aps_le hC (msg_Q hW.1 hg) ha hg n hn) (by omega)
  refine ind_up (fun j hj ih => ?_)
  intro s1 hF c7
  have hl2 := lk_le hb j
  have hv := hb (j + 1)
  have hvE : (apm ce f a g n) (j + 1) = aps ce (msg f g (1 + 5 * (j + 1))) a g n := rfl
  refine wp_iload dX7_looked_67 rfl rfl ?_
  refine wp_bipush (v := 46) dX7_looked_69 (by decide) rfl ?_
  refine wp_icmp_gt (t := 110) dX7_looked_71 rfl rfl (fun h71 => ?_) (fun h71 => ?_)
  · have hj9 : j = 9 := by have := (nI_ltI (a := 46) (by omega) (by omega)).mp h71; omega
    subst hj9
    refine wp_iload_n dX7_looked_110 rfl rfl ?_
    refine wp_if_ne (t := 119) dX7_looked_111 rfl rfl (fun h111 => ?_) (fun h111 => ?_)
    · refine wp_iload dX7_looked_119 rfl rfl ?_
      refine wp_iret dX7_looked_121 rfl rfl ?_
      refine ⟨_, _, rfl, rfl, ?_, hF⟩
      rw [if_neg h111]
    · refine wp_iload dX7_looked_114 rfl rfl ?_
      refine wp_goto (t := 121) dX7_looked_116 rfl ?_
      refine wp_iret dX7_looked_121 rfl rfl ?_
      refine ⟨_, _, rfl, rfl, ?_, hF⟩
      rw [if_pos h111]
  · have hl : j < 9 := by have := mt (nI_ltI (a := 46) (by omega) (by omega)).mpr h71; omega
    refine wp_aload_n dX7_looked_74 rfl rfl ?_
    refine wp_aload_n dX7_looked_75 rfl rfl ?_
    refine wn_getR dX7_looked_76 fRX7_34 o10 rfl rfl rfl ?_
    refine wp_iload_n dX7_looked_79 rfl rfl ?_
    refine wn_aald25 dX7_looked_80 (nIx rfl (by omega)) ha rfl ?_
    refine wp_iload_n dX7_looked_81 rfl rfl ?_
    refine wp_iload dX7_looked_82 rfl rfl ?_
    refine wn_callV3i dX7_looked_84 rRX7_211 (rcv_of o10 rfl) (Nat.le_of_ble_eq_true rfl) rfl rfl rfl (Nat.le_of_ble_eq_true rfl) rfl (c7_apart (n := n) (m := 1 + 5 * (j + 1)) (h.fh hF (by decide)) (hS.fh hF) hC ha hg hgc hn hsi hW (by omega)) (fun x84 s84 hq84 => ?_)
    obtain ⟨e84, hF84⟩ := hq84
    subst e84
    refine wp_istore (l' := [_, _, _, _, _, _, _, some _]) dX7_looked_87 rfl rfl ?_
    refine wp_iload dX7_looked_89 rfl rfl ?_
    refine wp_iload dX7_looked_91 rfl rfl ?_
    refine wp_icmp_ge (t := 104) dX7_looked_93 rfl rfl (fun h93 => ?_) (fun h93 => ?_)
    · refine wp_iinc (l' := [_, _, _, _, _, _, some _, _]) (v := 5) dX7_looked_104 rfl (by decide) rfl rfl ?_
      refine wp_goto (t := 67) dX7_looked_107 rfl ?_
      rw [ms5]
      have h := ih hl s84 (hF.tr hF84) (some (vI (nI ((apm ce f a g n) (j + 1)))))
      rw [lk_n (show ¬ (apm ce f a g n) (j + 1) < (lk (apm ce f a g n) j).2 from fun q => absurd ((nI_leI (by omega) (by omega)).mp h93) (by omega))] at h
      exact h
    · refine wp_iload dX7_looked_96 rfl rfl ?_
      refine wp_istore (l' := [_, _, _, _, some _, _, _, _]) dX7_looked_98 rfl rfl ?_
      refine wp_iload dX7_looked_100 rfl rfl ?_
      refine wp_istore (l' := [_, _, _, _, _, some _, _, _]) dX7_looked_102 rfl rfl ?_
      refine wp_iinc (l' := [_, _, _, _, _, _, some _, _]) (v := 5) dX7_looked_104 rfl (by decide) rfl rfl ?_
      refine wp_goto (t := 67) dX7_looked_107 rfl ?_
      rw [ms5]
      have h := ih hl s84 (hF.tr hF84) (some (vI (nI ((apm ce f a g n) (j + 1)))))
      rw [lk_y (show (apm ce f a g n) (j + 1) < (lk (apm ce f a g n) j).2 from by have := mt (nI_leI (by omega) (by omega)).mpr h93; omega)] at h
      exact h
theorem c7_looked {s : Sn} {f so si ce : Fl} {c c8 : Nat} {x y z : Int32} (h : RVL s 0 f c c8) (hS : SH s so si ce) (hQ : SQ so si) (hC : CQ ce) (hW : Wr f c c8) : Ca (d + 6) MX7_looked [vR 10 0 0, vI x, vI y, vI z] (hN s) (Pv fun q t => q = loA f so si ce c x y z ∧ FH s t) := by
  change Wp _ _ 0 [some _, some _, some _, some _, none, none, none, none] [] _ _
  have hc := hW.1.2.1
  have hlc : s.1 (11, 0, 0) 6 = nI c := (h.1.1.sc 1 (by decide)).trans hW.1.1
  refine wp_iload_n dX7_looked_0 rfl rfl ?_
  refine wn_callS1d dX7_looked_1 rRX7_204 (Nat.le_of_ble_eq_true rfl) rfl (Nat.le_of_ble_eq_true rfl) rfl (c7_isSheet) ?_
  refine wp_if_eq_b (t := 27) dX7_looked_4 rfl rfl (fun h4 => ?_) (fun h4 => ?_)
  · refine wp_ldc dX7_looked_27 kRX7_68 rfl ?_
    refine wp_iret dX7_looked_29 rfl rfl ?_
    exact ⟨_, _, rfl, rfl, (if_neg (fun q => h4 q.1)).symm, FH.rf⟩
  · refine wp_aload_n dX7_looked_7 rfl rfl ?_
    refine wn_getR dX7_looked_8 fRX7_10 o10 rfl rfl rfl ?_
    refine wp_iload_n dX7_looked_11 rfl rfl ?_
    refine wn_callV1d dX7_looked_12 rRX7_77 (rcv_of (o11 (by decide)) rfl) (Nat.le_of_ble_eq_true rfl) rfl (Nat.le_of_ble_eq_true rfl) rfl (c3_hasLog (by decide)) ?_
    refine wp_if_eq_b (t := 27) dX7_looked_15 rfl rfl (fun h15 => ?_) (fun h15 => ?_)
    · refine wp_ldc dX7_looked_27 kRX7_68 rfl ?_
      refine wp_iret dX7_looked_29 rfl rfl ?_
      exact ⟨_, _, rfl, rfl, (if_neg (fun q => by obtain ⟨g, hg, rfl⟩ := log_nat hc q.2.1; exact h15 ⟨by rw [hlc]; exact q.2.1, (nI_ltI (b := 12) (by omega) (by omega)).mpr (by omega)⟩)).symm, FH.rf⟩
    · refine wp_iload_n dX7_looked_18 rfl rfl ?_
      refine wp_iconst (v := 0) dX7_looked_19 (by decide) rfl ?_
      refine wp_iconst (v := 1) dX7_looked_20 (by decide) rfl ?_
      refine wn_callS3d dX7_looked_21 rRX7_128 (Nat.le_of_ble_eq_true rfl) rfl rfl rfl (Nat.le_of_ble_eq_true rfl) rfl (c7_within) ?_
      refine wp_if_ne_b (t := 30) dX7_looked_24 rfl rfl (fun h24 => ?_) (fun h24 => ?_)
      · obtain ⟨a, ha, rfl⟩ := sht h4
        rw [hlc] at h15
        obtain ⟨g, hgc, rfl⟩ := log_nat hc h15.1
        have hg : g < 12 := by omega
        obtain ⟨hs, n, hn, hsi⟩ := hQ a ha
        refine wp_aload_n dX7_looked_30 rfl rfl ?_
        refine wn_getR dX7_looked_31 fRX7_34 o10 rfl rfl rfl ?_
        refine wp_iload_n dX7_looked_34 rfl rfl ?_
        refine wn_aald25 dX7_looked_35 (nIx rfl (by omega)) ha rfl ?_
        refine wn_callV0d dX7_looked_36 rRX7_207 (rcv_of (o28 ha) rfl) (Nat.le_of_ble_eq_true rfl)  (Nat.le_of_ble_eq_true rfl) rfl (c4_isMissing ha) ?_
        rw [(hS a ha).1]
        refine wp_if_eq_b (t := 45) dX7_looked_39 rfl rfl (fun h39 => ?_) (fun h39 => ?_)
        · have hs0 : ¬ so a < 0 := fun q => hs.elim h39 (fun e => e.elim (fun e => absurd (e ▸ q) (by decide)) (fun e => absurd (e ▸ q) (by decide)))
          refine wp_iconst (v := 1) dX7_looked_45 (by decide) rfl ?_
          refine wp_istore (l' := [_, _, _, _, some _, _, _, _]) dX7_looked_46 rfl rfl ?_
          refine wp_aload_n dX7_looked_48 rfl rfl ?_
          refine wp_aload_n dX7_looked_49 rfl rfl ?_
          refine wn_getR dX7_looked_50 fRX7_34 o10 rfl rfl rfl ?_
          refine wp_iload_n dX7_looked_53 rfl rfl ?_
          refine wn_aald25 dX7_looked_54 (nIx rfl (by omega)) ha rfl ?_
          refine wp_iload_n dX7_looked_55 rfl rfl ?_
          refine wp_iload dX7_looked_56 rfl rfl ?_
          refine wn_callV3i dX7_looked_58 rRX7_211 (rcv_of o10 rfl) (Nat.le_of_ble_eq_true rfl) rfl rfl rfl (Nat.le_of_ble_eq_true rfl) rfl (c7_apart (n := n) (m := 1) h hS hC ha hg hgc hn hsi hW (by omega)) (fun x58 s58 hq58 => ?_)
          obtain ⟨e58, hF58⟩ := hq58
          subst e58
          refine wp_istore (l' := [_, _, _, _, _, some _, _, _]) dX7_looked_61 rfl rfl ?_
          refine wp_bipush (v := 6) dX7_looked_63 (by decide) rfl ?_
          refine wp_istore (l' := [_, _, _, _, _, _, some _, _]) dX7_looked_65 rfl rfl ?_
          rw [lo_y ha hg ⟨h4, nat_log hc hgc, h24⟩ hs0 hn hsi]
          have h67 := l7_lo (d := d) (z := z) h hS hC ha hg hgc hn hsi hW 0 (Nat.zero_le _) s58 hF58 none
          exact h67
        · refine wp_ldc dX7_looked_42 kRX7_210 rfl ?_
          refine wp_iret dX7_looked_44 rfl rfl ?_
          exact ⟨_, _, rfl, rfl, (lo_g ha ⟨h4, nat_log hc hgc, h24⟩ (by rw [h39]; decide)).symm, FH.rf⟩
      · refine wp_ldc dX7_looked_27 kRX7_68 rfl ?_
        refine wp_iret dX7_looked_29 rfl rfl ?_
        exact ⟨_, _, rfl, rfl, (if_neg (fun q => h24 q.2.2)).symm, FH.rf⟩
end
