/-! THE PURE PART, 52: pour, reads, copy -/
section
variable {d i j a : Nat}
theorem sI_self {s : Sn} {r : Rf} {k : Nat} {v : Int32} (h : s.1 r k = v) : sI s r k v = s := by
  unfold sI
  refine Prod.ext ?_ rfl
  funext z q
  show (if z = r ∧ q = k then v else s.1 z q) = s.1 z q
  by_cases e : z = r ∧ q = k
  · rw [if_pos e, e.1, e.2]; exact h.symm
  · rw [if_neg e]
theorem c4_hasNumber {s : Sn} {k : Nat} (ha : a < 4) (hk : k < 24) : Ca (d + 1) MX4_hasNumber [vR 28 a 0, vI (nI k)] (hN s) (Pd (bI (nI k < s.1 (28, a, 0) 2 ∧ ¬ s.1 (29, a, 0) k = -1000000005)) s) := by
  change Wp _ _ 0 [some _, some _] [] _ _
  refine wp_aload_n dX4_hasNumber_0 rfl rfl ?_
  refine wp_iload_n dX4_hasNumber_1 rfl rfl ?_
  refine wn_callV1d dX4_hasNumber_2 rRX4_28 (rcv_of (o28 ha) rfl) (Nat.le_of_ble_eq_true rfl) rfl (Nat.le_of_ble_eq_true rfl) rfl (c4_hasPlace ha) ?_
  refine wp_if_eq_b (t := 23) dX4_hasNumber_5 rfl rfl (fun h5 => ?_) (fun h5 => ?_)
  · refine wp_iconst (v := 0) dX4_hasNumber_23 (by decide) rfl ?_
    refine wp_iret dX4_hasNumber_24 rfl (by decide) ?_
    exact ⟨_, _, rfl, rfl, (bI_f (fun z => h5 ⟨⟨nI_pos (by omega), z.1⟩, (nI_ltI (b := 24) (by omega) (by decide)).mpr hk⟩)).symm, rfl⟩
  · refine wp_aload_n dX4_hasNumber_8 rfl rfl ?_
    refine wn_getR dX4_hasNumber_9 fRX4_9 (o28 ha) rfl rfl rfl ?_
    refine wp_iload_n dX4_hasNumber_12 rfl rfl ?_
    refine wn_iald dX4_hasNumber_13 (o29 ha) rfl (nIx rfl (by omega)) (show k < 24 from hk) rfl ?_
    refine wp_ldc dX4_hasNumber_14 kRX4_32 rfl ?_
    refine wp_icmp_eq (t := 23) dX4_hasNumber_16 rfl rfl (fun h16 => ?_) (fun h16 => ?_)
    · refine wp_iconst (v := 0) dX4_hasNumber_23 (by decide) rfl ?_
      refine wp_iret dX4_hasNumber_24 rfl (by decide) ?_
      exact ⟨_, _, rfl, rfl, (bI_f (fun z => z.2 h16)).symm, rfl⟩
    · refine wp_iconst (v := 1) dX4_hasNumber_19 (by decide) rfl ?_
      refine wp_goto (t := 24) dX4_hasNumber_20 rfl ?_
      refine wp_iret dX4_hasNumber_24 rfl (by decide) ?_
      exact ⟨_, _, rfl, rfl, (bI_t ⟨h5.1.2, h16⟩).symm, rfl⟩
theorem c4_hasNumbers {s : Sn} {k : Nat} (ha : a < 5) (hk : k < 24) : Ca (d + 1) MX4_hasNumber [vR 32 a 0, vI (nI k)] (hN s) (Pd (bI (nI k < s.1 (32, a, 0) 2 ∧ ¬ s.1 (33, a, 0) k = -1000000005)) s) := by
  change Wp _ _ 0 [some _, some _] [] _ _
  refine wp_aload_n dX4_hasNumber_0 rfl rfl ?_
  refine wp_iload_n dX4_hasNumber_1 rfl rfl ?_
  refine wn_callV1d dX4_hasNumber_2 rRX4_28 (rcv_of (o32 ha) rfl) (Nat.le_of_ble_eq_true rfl) rfl (Nat.le_of_ble_eq_true rfl) rfl (c4_hasPlaces ha) ?_
  refine wp_if_eq_b (t := 23) dX4_hasNumber_5 rfl rfl (fun h5 => ?_) (fun h5 => ?_)
  · refine wp_iconst (v := 0) dX4_hasNumber_23 (by decide) rfl ?_
    refine wp_iret dX4_hasNumber_24 rfl (by decide) ?_
    exact ⟨_, _, rfl, rfl, (bI_f (fun z => h5 ⟨⟨nI_pos (by omega), z.1⟩, (nI_ltI (b := 24) (by omega) (by decide)).mpr hk⟩)).symm, rfl⟩
  · refine wp_aload_n dX4_hasNumber_8 rfl rfl ?_
    refine wn_getR dX4_hasNumber_9 fRX4_9 (o32 ha) rfl rfl rfl ?_
    refine wp_iload_n dX4_hasNumber_12 rfl rfl ?_
    refine wn_iald dX4_hasNumber_13 (o33 ha) rfl (nIx rfl (by omega)) (show k < 24 from hk) rfl ?_
    refine wp_ldc dX4_hasNumber_14 kRX4_32 rfl ?_
    refine wp_icmp_eq (t := 23) dX4_hasNumber_16 rfl rfl (fun h16 => ?_) (fun h16 => ?_)
    · refine wp_iconst (v := 0) dX4_hasNumber_23 (by decide) rfl ?_
      refine wp_iret dX4_hasNumber_24 rfl (by decide) ?_
      exact ⟨_, _, rfl, rfl, (bI_f (fun z => z.2 h16)).symm, rfl⟩
    · refine wp_iconst (v := 1) dX4_hasNumber_19 (by decide) rfl ?_
      refine wp_goto (t := 24) dX4_hasNumber_20 rfl ?_
      refine wp_iret dX4_hasNumber_24 rfl (by decide) ?_
      exact ⟨_, _, rfl, rfl, (bI_t ⟨h5.1.2, h16⟩).symm, rfl⟩
def por (f ce : Fl) (a n : Nat) : Nat → Fl × Nat
  | 0 => (f, 0)
  | r + 1 => if r < n ∧ ¬ ce (24 * a + r) = -1000000005 then (upd (por f ce a n r).1 (21 + r) (wth (ce (24 * a + r)) 1 12), (por f ce a n r).2 + (if (por f ce a n r).1 (21 + r) = wth (ce (24 * a + r)) 1 12 then 0 else 1)) else por f ce a n r
theorem por_y {f ce : Fl} {n r : Nat} (h : r < n ∧ ¬ ce (24 * a + r) = -1000000005) : por f ce a n (r + 1) = (upd (por f ce a n r).1 (21 + r) (wth (ce (24 * a + r)) 1 12), (por f ce a n r).2 + (if (por f ce a n r).1 (21 + r) = wth (ce (24 * a + r)) 1 12 then 0 else 1)) := if_pos h
theorem por_n {f ce : Fl} {n r : Nat} (h : ¬ (r < n ∧ ¬ ce (24 * a + r) = -1000000005)) : por f ce a n (r + 1) = por f ce a n r := if_neg h
theorem por_t {f ce : Fl} {n : Nat} : ∀ m, por f ce a n (n + m) = por f ce a n n
  | 0 => rfl
  | m + 1 => by rw [← Nat.add_assoc, por_n (fun z => by omega), por_t m]
theorem por_min {f ce : Fl} {n : Nat} : por f ce a n (min n 12) = por f ce a n 12 := by
  by_cases h : n ≤ 12
  · rw [show min n 12 = n by omega]
    have := por_t (f := f) (ce := ce) (a := a) (n := n) (12 - n)
    rw [show n + (12 - n) = 12 by omega] at this
    exact this.symm
  · rw [show min n 12 = 12 by omega]
theorem por_le {f ce : Fl} {n : Nat} : ∀ r, (por f ce a n r).2 ≤ r
  | 0 => Nat.le_refl _
  | r + 1 => by
    have := por_le (f := f) (ce := ce) (n := n) r
    by_cases h : r < n ∧ ¬ ce (24 * a + r) = -1000000005
    · rw [por_y h]; show _ + _ ≤ _; split <;> omega
    · rw [por_n h]; omega
theorem hld_12 (v : Int32) : hld v 1 12 = wth v 1 12 := by
  have e1 : (1 : Int32).toInt = 1 := by decide
  have e12 : (12 : Int32).toInt = 12 := by decide
  unfold hld wth
  simp only [Int32.lt_iff_toInt_lt, e1, e12]
  by_cases h1 : v.toInt < 12
  · rw [if_pos h1]
    by_cases h2 : 1 < v.toInt
    · rw [if_pos h2, if_neg (by omega), if_neg (by omega)]
    · rw [if_neg h2]
      by_cases h3 : v.toInt < 1
      · rw [if_pos h3]
      · rw [if_neg h3, if_neg (by omega)]
        exact (Int32.toInt_inj.mp (by rw [e1]; omega))
  · rw [if_neg h1, e12, if_pos (by decide), if_neg (by omega)]
    by_cases h2 : 12 < v.toInt
    · rw [if_pos h2]
    · rw [if_neg h2]
      exact (Int32.toInt_inj.mp (by rw [e12]; omega))
def poA (f so si ce : Fl) (x : Int32) : Int32 := if 0 ≤ x ∧ x ≤ 3 then (if so x.toNatClampNeg < 0 then -1000000011 else nI (por f ce x.toNatClampNeg (si x.toNatClampNeg).toNatClampNeg 12).2) else -1000000001
def poF (f so si ce : Fl) (x : Int32) : Fl := if 0 ≤ x ∧ x ≤ 3 then (if so x.toNatClampNeg < 0 then f else (por f ce x.toNatClampNeg (si x.toNatClampNeg).toNatClampNeg 12).1) else f
theorem po_no {f so si ce : Fl} {x : Int32} (h : ¬ (0 ≤ x ∧ x ≤ 3)) : poA f so si ce x = -1000000001 ∧ poF f so si ce x = f := ⟨if_neg h, if_neg h⟩
theorem po_g {f so si ce : Fl} (ha : a < 4) (hx : 0 ≤ nI a ∧ nI a ≤ 3) (h : so a < 0) : poA f so si ce (nI a) = -1000000011 ∧ poF f so si ce (nI a) = f := by
  unfold poA poF
  rw [if_pos hx, if_pos hx, nI_clamp (by omega), if_pos h, if_pos h]
  exact ⟨rfl, rfl⟩
theorem po_y {f so si ce : Fl} {n : Nat} (ha : a < 4) (hx : 0 ≤ nI a ∧ nI a ≤ 3) (h : ¬ so a < 0) (hn : n ≤ 24) (hs : si a = nI n) : poA f so si ce (nI a) = nI (por f ce a n 12).2 ∧ poF f so si ce (nI a) = (por f ce a n 12).1 := by
  unfold poA poF
  rw [if_pos hx, if_pos hx, nI_clamp (by omega), if_neg h, if_neg h, hs, nI_clamp (by omega)]
  exact ⟨rfl, rfl⟩
theorem l8_pour {s : Sn} {n : Nat} (ha : a < 4) (hn : n ≤ 24) (hsi : (s.1 (41, 13, 0)) a = nI n) : ∀ k, k ≤ min n 12 → ∀ s1 : Sn, s1.1 (41, 0, 0) = (por (s.1 (41, 0, 0)) (s.1 (41, 14, 0)) a n k).1 → Fr [(41, 0, 0)] s s1 → ∀ c4 c5, Wp (d + 2) MX8_pour 26 [some (vR 40 0 0), some (vI (nI a)), some (vI (nI (por (s.1 (41, 0, 0)) (s.1 (41, 14, 0)) a n k).2)), some (vI (nI k)), c4, c5] [] (hN s1) (Pv fun z t => z = nI (por (s.1 (41, 0, 0)) (s.1 (41, 14, 0)) a n 12).2 ∧ t.1 (41, 0, 0) = (por (s.1 (41, 0, 0)) (s.1 (41, 14, 0)) a n 12).1 ∧ Fr [(41, 0, 0)] s t) := by
  refine ind_up (fun k hk ih => ?_)
  intro s1 e1 hF c4 c5
  have hl2 := por_le (f := (s.1 (41, 0, 0))) (ce := (s.1 (41, 14, 0))) (a := a) (n := n) k
  refine wp_iload_n dX8_pour_26 rfl rfl ?_
  refine wp_aload_n dX8_pour_27 rfl rfl ?_
  refine wn_getR dX8_pour_28 fRX8_51 o40 rfl rfl rfl ?_
  refine wp_iload_n dX8_pour_31 rfl rfl ?_
  refine wn_iald dX8_pour_32 (o41 13 rfl) rfl (nIx rfl (by omega)) (show a < 4 from ha) rfl ?_
  rw [hF.1 (41, 13, 0) (by decide), hsi]
  refine wp_icmp_ge (t := 113) dX8_pour_33 rfl rfl (fun h33 => ?_) (fun h33 => ?_)
  · refine wp_iload_n dX8_pour_113 rfl rfl ?_
    refine wp_iret dX8_pour_114 rfl rfl ?_
    have hk2 : k = min n 12 := by have := (nI_leI (by omega) (by omega)).mp h33; omega
    subst hk2
    rw [por_min]
    exact ⟨_, _, rfl, rfl, rfl, by rw [e1, por_min], hF⟩
  · have hkn : k < n := by have := mt (nI_leI (by omega) (by omega)).mpr h33; omega
    refine wp_iload_n dX8_pour_36 rfl rfl ?_
    refine wp_bipush (v := 12) dX8_pour_37 (by decide) rfl ?_
    refine wp_icmp_ge (t := 113) dX8_pour_39 rfl rfl (fun h39 => ?_) (fun h39 => ?_)
    · refine wp_iload_n dX8_pour_113 rfl rfl ?_
      refine wp_iret dX8_pour_114 rfl rfl ?_
      have hk2 : k = min n 12 := by have := (nI_leI (a := 12) (by omega) (by omega)).mp h39; omega
      subst hk2
      rw [por_min]
      exact ⟨_, _, rfl, rfl, rfl, by rw [e1, por_min], hF⟩
    · have hk12 : k < 12 := by have := mt (nI_leI (a := 12) (by omega) (by omega)).mpr h39; omega
      refine wp_aload_n dX8_pour_42 rfl rfl ?_
      refine wn_getR dX8_pour_43 fRX8_54 o40 rfl rfl rfl ?_
      refine wp_bipush (v := 24) dX8_pour_46 (by decide) rfl ?_
      refine wp_iload_n dX8_pour_48 rfl rfl ?_
      refine wp_imul dX8_pour_49 rfl ?_
      refine wp_iload_n dX8_pour_50 rfl rfl ?_
      refine wp_iadd dX8_pour_51 rfl ?_
      refine wn_iald dX8_pour_52 (o41 14 rfl) rfl (nIx ix_24 (by omega)) (by show _ < 96; omega) rfl ?_
      rw [hF.1 (41, 14, 0) (by decide)]
      refine wp_istore (l' := [_, _, _, _, some _, _]) dX8_pour_53 rfl rfl ?_
      refine wp_iload dX8_pour_55 rfl rfl ?_
      refine wp_ldc dX8_pour_57 kRX8_149 rfl ?_
      refine wp_icmp_ne (t := 74) dX8_pour_59 rfl rfl (fun h59 => ?_) (fun h59 => ?_)
      · refine wp_iload dX8_pour_74 rfl rfl ?_
        refine wp_iconst (v := 1) dX8_pour_76 (by decide) rfl ?_
        refine wp_bipush (v := 12) dX8_pour_77 (by decide) rfl ?_
        refine wn_callS3d dX8_pour_79 rRX8_100 (Nat.le_of_ble_eq_true rfl) rfl rfl rfl (Nat.le_of_ble_eq_true rfl) rfl (c8_within) ?_
        refine wp_istore (l' := [_, _, _, _, _, some _]) dX8_pour_82 rfl rfl ?_
        refine wp_iload_n dX8_pour_84 rfl rfl ?_
        refine wp_aload_n dX8_pour_85 rfl rfl ?_
        refine wp_bipush (v := 21) dX8_pour_86 (by decide) rfl ?_
        refine wp_iload_n dX8_pour_88 rfl rfl ?_
        refine wp_iadd dX8_pour_89 rfl ?_
        refine wp_iload dX8_pour_90 rfl rfl ?_
        rw [ix_21]
        refine wn_callV2d dX8_pour_92 rRX8_121 (rcv_of o40 rfl) (Nat.le_of_ble_eq_true rfl) rfl rfl (Nat.le_of_ble_eq_true rfl) rfl (c8_becomes (k := 21 + k) (by omega)) ?_
        rw [e1]
        refine wp_iload dX8_pour_95 rfl rfl ?_
        refine wp_icmp_ne (t := 104) dX8_pour_97 rfl rfl (fun h97 => ?_) (fun h97 => ?_)
        · refine wp_iconst (v := 1) dX8_pour_104 (by decide) rfl ?_
          refine wp_iadd dX8_pour_105 rfl ?_
          refine wp_istore_n (l' := [_, _, some _, _, _, _]) dX8_pour_106 rfl rfl ?_
          refine wp_iinc (l' := [_, _, _, some _, _, _]) (v := 1) dX8_pour_107 rfl (by decide) rfl rfl ?_
          refine wp_goto (t := 26) dX8_pour_110 rfl ?_
          have hl : k < min n 12 := by omega
          rw [nI_1]
          have h := ih hl (sI s1 (41, 0, 0) (21 + k) (wth ((s.1 (41, 14, 0)) (24 * a + k)) 1 12)) (by rw [por_y ⟨by omega, h59⟩, sI_row, e1]) (hF.pt (by decide)) (some (vI ((s.1 (41, 14, 0)) (24 * a + k)))) (some (vI (wth ((s.1 (41, 14, 0)) (24 * a + k)) 1 12)))
          rw [por_y ⟨by omega, h59⟩, if_neg h97] at h
          rw [nI_1]
          exact h
        · refine wp_iconst (v := 0) dX8_pour_100 (by decide) rfl ?_
          refine wp_goto (t := 105) dX8_pour_101 rfl ?_
          refine wp_iadd dX8_pour_105 rfl ?_
          refine wp_istore_n (l' := [_, _, some _, _, _, _]) dX8_pour_106 rfl rfl ?_
          refine wp_iinc (l' := [_, _, _, some _, _, _]) (v := 1) dX8_pour_107 rfl (by decide) rfl rfl ?_
          refine wp_goto (t := 26) dX8_pour_110 rfl ?_
          have hl : k < min n 12 := by omega
          rw [nI_1]
          have h := ih hl (sI s1 (41, 0, 0) (21 + k) (wth ((s.1 (41, 14, 0)) (24 * a + k)) 1 12)) (by rw [por_y ⟨by omega, h59⟩, sI_row, e1]) (hF.pt (by decide)) (some (vI ((s.1 (41, 14, 0)) (24 * a + k)))) (some (vI (wth ((s.1 (41, 14, 0)) (24 * a + k)) 1 12)))
          rw [por_y ⟨by omega, h59⟩, if_pos h97] at h
          rw [Int32.add_zero]
          exact h
      · refine wp_aload_n dX8_pour_62 rfl rfl ?_
        refine wn_getR dX8_pour_63 fRX8_9 o40 rfl rfl rfl ?_
        refine wp_bipush (v := 21) dX8_pour_66 (by decide) rfl ?_
        refine wp_iload_n dX8_pour_68 rfl rfl ?_
        refine wp_iadd dX8_pour_69 rfl ?_
        refine wn_iald dX8_pour_70 (o41 0 rfl) rfl (nIx ix_21 (by omega)) (by show _ < 1477; omega) rfl ?_
        rw [e1]
        refine wp_goto (t := 82) dX8_pour_71 rfl ?_
        refine wp_istore (l' := [_, _, _, _, _, some _]) dX8_pour_82 rfl rfl ?_
        refine wp_iload_n dX8_pour_84 rfl rfl ?_
        refine wp_aload_n dX8_pour_85 rfl rfl ?_
        refine wp_bipush (v := 21) dX8_pour_86 (by decide) rfl ?_
        refine wp_iload_n dX8_pour_88 rfl rfl ?_
        refine wp_iadd dX8_pour_89 rfl ?_
        refine wp_iload dX8_pour_90 rfl rfl ?_
        rw [ix_21]
        refine wn_callV2d dX8_pour_92 rRX8_121 (rcv_of o40 rfl) (Nat.le_of_ble_eq_true rfl) rfl rfl (Nat.le_of_ble_eq_true rfl) rfl (c8_becomes (k := 21 + k) (by omega)) ?_
        rw [e1]
        refine wp_iload dX8_pour_95 rfl rfl ?_
        refine wp_icmp_ne (t := 104) dX8_pour_97 rfl rfl (fun h97 => absurd rfl h97) (fun h97 => ?_)
        refine wp_iconst (v := 0) dX8_pour_100 (by decide) rfl ?_
        refine wp_goto (t := 105) dX8_pour_101 rfl ?_
        refine wp_iadd dX8_pour_105 rfl ?_
        refine wp_istore_n (l' := [_, _, some _, _, _, _]) dX8_pour_106 rfl rfl ?_
        refine wp_iinc (l' := [_, _, _, some _, _, _]) (v := 1) dX8_pour_107 rfl (by decide) rfl rfl ?_
        refine wp_goto (t := 26) dX8_pour_110 rfl ?_
        have hl : k < min n 12 := by omega
        rw [nI_1]
        have hE := por_n (f := (s.1 (41, 0, 0))) (ce := (s.1 (41, 14, 0))) (a := a) (n := n) (r := k) (fun z => z.2 h59)
        have h := ih hl s1 (by rw [hE]; exact e1) hF (some (vI ((s.1 (41, 14, 0)) (24 * a + k)))) (some (vI ((por (s.1 (41, 0, 0)) (s.1 (41, 14, 0)) a n k).1 (21 + k))))
        rw [hE] at h
        rw [Int32.add_zero, show sI s1 (41, 0, 0) (21 + k) ((por (s.1 (41, 0, 0)) (s.1 (41, 14, 0)) a n k).1 (21 + k)) = s1 from sI_self (by rw [e1])]
        exact h
theorem c8_pour {s : Sn} {x : Int32} (hQ : SQ (s.1 (41, 12, 0)) (s.1 (41, 13, 0))) : Ca (d + 2) MX8_pour [vR 40 0 0, vI x] (hN s) (Pv fun z t => z = poA (s.1 (41, 0, 0)) (s.1 (41, 12, 0)) (s.1 (41, 13, 0)) (s.1 (41, 14, 0)) x ∧ t.1 (41, 0, 0) = poF (s.1 (41, 0, 0)) (s.1 (41, 12, 0)) (s.1 (41, 13, 0)) (s.1 (41, 14, 0)) x ∧ Fr [(41, 0, 0)] s t) := by
  change Wp _ _ 0 [some _, some _, none, none, none, none] [] _ _
  refine wp_iload_n dX8_pour_0 rfl rfl ?_
  refine wn_callS1d dX8_pour_1 rRX8_168 (Nat.le_of_ble_eq_true rfl) rfl (Nat.le_of_ble_eq_true rfl) rfl (c8_isSheet) ?_
  refine wp_if_ne_b (t := 10) dX8_pour_4 rfl rfl (fun h4 => ?_) (fun h4 => ?_)
  · obtain ⟨a, ha, rfl⟩ := sht h4
    obtain ⟨hs, n, hn, hsi⟩ := hQ a ha
    refine wp_aload_n dX8_pour_10 rfl rfl ?_
    refine wn_getR dX8_pour_11 fRX8_48 o40 rfl rfl rfl ?_
    refine wp_iload_n dX8_pour_14 rfl rfl ?_
    refine wn_iald dX8_pour_15 (o41 12 rfl) rfl (nIx rfl (by omega)) (show a < 4 from ha) rfl ?_
    refine wp_if_ge (t := 22) dX8_pour_16 rfl rfl (fun h16 => ?_) (fun h16 => ?_)
    · refine wp_iconst (v := 0) dX8_pour_22 (by decide) rfl ?_
      refine wp_istore_n (l' := [_, _, some _, _, _, _]) dX8_pour_23 rfl rfl ?_
      refine wp_iconst (v := 0) dX8_pour_24 (by decide) rfl ?_
      refine wp_istore_n (l' := [_, _, _, some _, _, _]) dX8_pour_25 rfl rfl ?_
      obtain ⟨e1, e2⟩ := po_y (f := (s.1 (41, 0, 0))) (so := (s.1 (41, 12, 0))) (si := (s.1 (41, 13, 0))) (ce := (s.1 (41, 14, 0))) ha h4 (Int32.not_lt.mpr h16) hn hsi
      rw [e1, e2]
      exact l8_pour ha hn hsi 0 (Nat.zero_le _) s rfl Fr.rf _ _
    · refine wp_ldc dX8_pour_19 kRX8_171 rfl ?_
      refine wp_iret dX8_pour_21 rfl rfl ?_
      obtain ⟨e1, e2⟩ := po_g (f := (s.1 (41, 0, 0))) (so := (s.1 (41, 12, 0))) (si := (s.1 (41, 13, 0))) (ce := (s.1 (41, 14, 0))) ha h4 (Int32.not_le.mp h16)
      exact ⟨_, _, rfl, rfl, e1.symm, e2.symm, Fr.rf⟩
  · refine wp_ldc dX8_pour_7 kRX8_83 rfl ?_
    refine wp_iret dX8_pour_9 rfl rfl ?_
    obtain ⟨e1, e2⟩ := po_no (f := (s.1 (41, 0, 0))) (so := (s.1 (41, 12, 0))) (si := (s.1 (41, 13, 0))) (ce := (s.1 (41, 14, 0))) h4
    exact ⟨_, _, rfl, rfl, e1.symm, e2.symm, Fr.rf⟩
theorem SH.fq {s t : Sn} {so si ce : Fl} {X : Rf → Prop} (h : SH s so si ce) (hF : FQ X s t) (hX : ∀ r, X r → r.1 ≠ 28 ∧ r.1 ≠ 29) : SH t so si ce := fun b hb => by
  obtain ⟨p1, p2, p3⟩ := h b hb
  rw [hF.1 (28, b, 0) (fun z => (hX _ z).1 rfl), hF.1 (29, b, 0) (fun z => (hX _ z).2 rfl)]
  exact ⟨p1, p2, p3⟩
theorem l7_pour {s : Sn} {f so si ce : Fl} {c n : Nat} (h : SH s so si ce) (ha : a < 4) (hn : n ≤ 24) (hsi : si a = nI n) : ∀ k, k ≤ 12 → ∀ s1 : Sn, RV s1 0 (por f ce a n k).1 c → FQ (fun r => r = (14, 0, 0)) s s1 → ∀ c4, Wp (d + 2) MX7_pour 29 [some (vR 10 0 0), some (vI (nI a)), some (vI (nI (por f ce a n k).2)), some (vI (nI k)), c4] [] (hN s1) (Pv fun z t => z = nI (por f ce a n 12).2 ∧ RV t 0 (por f ce a n 12).1 c ∧ FQ (fun r => r = (14, 0, 0)) s t) := by
  refine ind_up (fun k hk ih => ?_)
  intro s1 hV hF c4
  obtain ⟨p1, p2, p3⟩ := (h.fq hF (fun r hr => by rw [hr]; decide)) a ha
  have hl2 := por_le (f := f) (ce := ce) (a := a) (n := n) k
  refine wp_iload_n dX7_pour_29 rfl rfl ?_
  refine wp_bipush (v := 12) dX7_pour_30 (by decide) rfl ?_
  refine wp_icmp_ge (t := 101) dX7_pour_32 rfl rfl (fun h32 => ?_) (fun h32 => ?_)
  · refine wp_iload_n dX7_pour_101 rfl rfl ?_
    refine wp_iret dX7_pour_102 rfl rfl ?_
    have hk2 : k = 12 := by have := (nI_leI (a := 12) (by omega) (by omega)).mp h32; omega
    subst hk2
    exact ⟨_, _, rfl, rfl, rfl, hV, hF⟩
  · have hl : k < 12 := by have := mt (nI_leI (a := 12) (by omega) (by omega)).mpr h32; omega
    refine wp_aload_n dX7_pour_35 rfl rfl ?_
    refine wn_getR dX7_pour_36 fRX7_34 o10 rfl rfl rfl ?_
    refine wp_iload_n dX7_pour_39 rfl rfl ?_
    refine wn_aald25 dX7_pour_40 (nIx rfl (by omega)) ha rfl ?_
    refine wp_iload_n dX7_pour_41 rfl rfl ?_
    refine wn_callV1d dX7_pour_42 rRX7_277 (rcv_of (o28 ha) rfl) (Nat.le_of_ble_eq_true rfl) rfl (Nat.le_of_ble_eq_true rfl) rfl (c4_hasNumber ha (by omega)) ?_
    rw [p2, hsi, p3 k (by omega)]
    refine wp_if_eq_b (t := 95) dX7_pour_45 rfl rfl (fun h45 => ?_) (fun h45 => ?_)
    · refine wp_iinc (l' := [_, _, _, some _, _]) (v := 1) dX7_pour_95 rfl (by decide) rfl rfl ?_
      refine wp_goto (t := 29) dX7_pour_98 rfl ?_
      rw [nI_1]
      have hE := por_n (f := f) (ce := ce) (a := a) (n := n) (r := k) (fun z => h45 ⟨(nI_ltI (by omega) (by omega)).mpr z.1, z.2⟩)
      have h := ih hl s1 (by rw [hE]; exact hV) hF c4
      rw [hE] at h
      exact h
    · refine wp_aload_n dX7_pour_48 rfl rfl ?_
      refine wn_getR dX7_pour_49 fRX7_34 o10 rfl rfl rfl ?_
      refine wp_iload_n dX7_pour_52 rfl rfl ?_
      refine wn_aald25 dX7_pour_53 (nIx rfl (by omega)) ha rfl ?_
      refine wn_getR dX7_pour_54 fRX7_272 (o28 ha) rfl rfl rfl ?_
      refine wp_iload_n dX7_pour_57 rfl rfl ?_
      refine wn_iald dX7_pour_58 (o29 ha) rfl (nIx rfl (by omega)) (show k < 24 by omega) rfl ?_
      rw [p3 k (by omega)]
      refine wp_iconst (v := 1) dX7_pour_59 (by decide) rfl ?_
      refine wp_bipush (v := 12) dX7_pour_60 (by decide) rfl ?_
      refine wn_callS3d dX7_pour_62 rRX7_280 (Nat.le_of_ble_eq_true rfl) rfl rfl rfl (Nat.le_of_ble_eq_true rfl) rfl (c7_hold) ?_
      rw [hld_12]
      refine wp_istore (l' := [_, _, _, _, some _]) dX7_pour_65 rfl rfl ?_
      refine wp_iload dX7_pour_67 rfl rfl ?_
      refine wp_aload_n dX7_pour_69 rfl rfl ?_
      refine wn_getR dX7_pour_70 fRX7_10 o10 rfl rfl rfl ?_
      refine wn_getR dX7_pour_73 fRX7_131 (o11 (by decide)) rfl rfl rfl ?_
      refine wp_iload_n dX7_pour_76 rfl rfl ?_
      refine wn_iald dX7_pour_77 (o14 (by decide)) rfl (nIx rfl (by omega)) (show k < 12 from hl) rfl ?_
      rw [show s1.1 (14, 0, 0) k = (por f ce a n k).1 (21 + k) from hV.1.rm hl]
      refine wp_icmp_eq (t := 84) dX7_pour_78 rfl rfl (fun h78 => ?_) (fun h78 => ?_)
      · refine wp_aload_n dX7_pour_84 rfl rfl ?_
        refine wn_getR dX7_pour_85 fRX7_10 o10 rfl rfl rfl ?_
        refine wn_getR dX7_pour_88 fRX7_131 (o11 (by decide)) rfl rfl rfl ?_
        refine wp_iload_n dX7_pour_91 rfl rfl ?_
        refine wp_iload dX7_pour_92 rfl rfl ?_
        refine wn_iast dX7_pour_94 (o14 (by decide)) rfl (nIx rfl (by omega)) (show k < 12 from hl) rfl ?_
        refine wp_iinc (l' := [_, _, _, some _, _]) (v := 1) dX7_pour_95 rfl (by decide) rfl rfl ?_
        refine wp_goto (t := 29) dX7_pour_98 rfl ?_
        rw [nI_1]
        have hY := por_y (f := f) (a := a) (n := n) (r := k) (ce := ce) ⟨(nI_ltI (by omega) (by omega)).mp h45.1, h45.2⟩
        have hb := hV.rm (v := (wth (ce (24 * a + k)) 1 12)) hl
        rw [show 21 + 12 * 0 + k = 21 + k by omega] at hb
        have h := ih hl _ (by rw [hY]; exact hb) (hF.pt rfl) (some (vI (wth (ce (24 * a + k)) 1 12)))
        rw [hY, if_pos h78.symm] at h
        exact h
      · refine wp_iinc (l' := [_, _, some _, _, _]) (v := 1) dX7_pour_81 rfl (by decide) rfl rfl ?_
        refine wp_aload_n dX7_pour_84 rfl rfl ?_
        refine wn_getR dX7_pour_85 fRX7_10 o10 rfl rfl rfl ?_
        refine wn_getR dX7_pour_88 fRX7_131 (o11 (by decide)) rfl rfl rfl ?_
        refine wp_iload_n dX7_pour_91 rfl rfl ?_
        refine wp_iload dX7_pour_92 rfl rfl ?_
        refine wn_iast dX7_pour_94 (o14 (by decide)) rfl (nIx rfl (by omega)) (show k < 12 from hl) rfl ?_
        refine wp_iinc (l' := [_, _, _, some _, _]) (v := 1) dX7_pour_95 rfl (by decide) rfl rfl ?_
        refine wp_goto (t := 29) dX7_pour_98 rfl ?_
        rw [nI_1]
        have hY := por_y (f := f) (a := a) (n := n) (r := k) (ce := ce) ⟨(nI_ltI (by omega) (by omega)).mp h45.1, h45.2⟩
        have hb := hV.rm (v := (wth (ce (24 * a + k)) 1 12)) hl
        rw [show 21 + 12 * 0 + k = 21 + k by omega] at hb
        have h := ih hl _ (by rw [hY]; exact hb) (hF.pt rfl) (some (vI (wth (ce (24 * a + k)) 1 12)))
        rw [hY, if_neg (fun z => h78 z.symm)] at h
        rw [nI_1]
        exact h
theorem c7_pour {s : Sn} {f so si ce : Fl} {c : Nat} {x : Int32} (hV : RV s 0 f c) (h : SH s so si ce) (hQ : SQ so si) : Ca (d + 2) MX7_pour [vR 10 0 0, vI x] (hN s) (Pv fun z t => z = poA f so si ce x ∧ RV t 0 (poF f so si ce x) c ∧ FQ (fun r => r = (14, 0, 0)) s t) := by
  change Wp _ _ 0 [some _, some _, none, none, none] [] _ _
  refine wp_iload_n dX7_pour_0 rfl rfl ?_
  refine wn_callS1d dX7_pour_1 rRX7_204 (Nat.le_of_ble_eq_true rfl) rfl (Nat.le_of_ble_eq_true rfl) rfl (c7_isSheet) ?_
  refine wp_if_ne_b (t := 10) dX7_pour_4 rfl rfl (fun h4 => ?_) (fun h4 => ?_)
  · obtain ⟨a, ha, rfl⟩ := sht h4
    obtain ⟨hs, n, hn, hsi⟩ := hQ a ha
    refine wp_aload_n dX7_pour_10 rfl rfl ?_
    refine wn_getR dX7_pour_11 fRX7_34 o10 rfl rfl rfl ?_
    refine wp_iload_n dX7_pour_14 rfl rfl ?_
    refine wn_aald25 dX7_pour_15 (nIx rfl (by omega)) ha rfl ?_
    refine wn_callV0d dX7_pour_16 rRX7_207 (rcv_of (o28 ha) rfl) (Nat.le_of_ble_eq_true rfl)  (Nat.le_of_ble_eq_true rfl) rfl (c4_isMissing ha) ?_
    rw [(h a ha).1]
    refine wp_if_eq_b (t := 25) dX7_pour_19 rfl rfl (fun h19 => ?_) (fun h19 => ?_)
    · have hs0 : ¬ so a < 0 := fun z => hs.elim h19 (fun e => e.elim (fun e => absurd (e ▸ z) (by decide)) (fun e => absurd (e ▸ z) (by decide)))
      refine wp_iconst (v := 0) dX7_pour_25 (by decide) rfl ?_
      refine wp_istore_n (l' := [_, _, some _, _, _]) dX7_pour_26 rfl rfl ?_
      refine wp_iconst (v := 0) dX7_pour_27 (by decide) rfl ?_
      refine wp_istore_n (l' := [_, _, _, some _, _]) dX7_pour_28 rfl rfl ?_
      obtain ⟨e1, e2⟩ := po_y (f := f) (so := so) (si := si) (ce := ce) ha h4 hs0 hn hsi
      rw [e1, e2]
      exact l7_pour h ha hn hsi 0 (Nat.zero_le _) s hV FQ.rf _
    · refine wp_ldc dX7_pour_22 kRX7_210 rfl ?_
      refine wp_iret dX7_pour_24 rfl rfl ?_
      obtain ⟨e1, e2⟩ := po_g (f := f) (so := so) (si := si) (ce := ce) ha h4 (by rw [h19]; decide)
      exact ⟨_, _, rfl, rfl, e1.symm, by rw [e2]; exact hV, FQ.rf⟩
  · refine wp_ldc dX7_pour_7 kRX7_68 rfl ?_
    refine wp_iret dX7_pour_9 rfl rfl ?_
    obtain ⟨e1, e2⟩ := po_no (f := f) (so := so) (si := si) (ce := ce) h4
    exact ⟨_, _, rfl, rfl, e1.symm, by rw [e2]; exact hV, FQ.rf⟩
def fst1 (p : Nat → Bool) : Nat → Nat → Int32
  | 0, _ => -1000000005
  | m + 1, k => if p k = true then nI k else fst1 p m (k + 1)
def rsP (f ce : Fl) (c a : Nat) : Nat → Bool := fun k => decide (¬ ce (24 * a + k) = -1000000005 ∧ ¬ (k < c ∧ ce (24 * a + k) = f (45 + 5 * k + 3)))
def rsA (f so si ce : Fl) (c : Nat) (x : Int32) : Int32 := if 0 ≤ x ∧ x ≤ 3 then (if so x.toNatClampNeg < 0 then -1000000011 else fst1 (rsP f ce c x.toNatClampNeg) (si x.toNatClampNeg).toNatClampNeg 0) else -1000000001
theorem rs_g {f so si ce : Fl} {c : Nat} (ha : a < 4) (hx : 0 ≤ nI a ∧ nI a ≤ 3) (h : so a < 0) : rsA f so si ce c (nI a) = -1000000011 := by
  unfold rsA
  rw [if_pos hx, nI_clamp (by omega), if_pos h]
theorem rs_y {f so si ce : Fl} {c n : Nat} (ha : a < 4) (hx : 0 ≤ nI a ∧ nI a ≤ 3) (h : ¬ so a < 0) (hn : n ≤ 24) (hs : si a = nI n) : rsA f so si ce c (nI a) = fst1 (rsP f ce c a) n 0 := by
  unfold rsA
  rw [if_pos hx, nI_clamp (by omega), if_neg h, hs, nI_clamp (by omega)]
theorem l8_reads {s : Sn} {c n : Nat} (ha : a < 4) (hn : n ≤ 24) (hsi : (s.1 (41, 13, 0)) a = nI n) (hc : c ≤ 12) (h1 : s.1 (41, 0, 0) 1 = nI c) : ∀ k, k ≤ n → ∀ c3, Wp (d + 2) MX8_reads 24 [some (vR 40 0 0), some (vI (nI a)), some (vI (nI k)), c3] [] (hN s) (Pd (fst1 (rsP (s.1 (41, 0, 0)) (s.1 (41, 14, 0)) c a) (n - k) k) s) := by
  refine ind_up (fun k hk ih => ?_)
  intro c3
  refine wp_iload_n dX8_reads_24 rfl rfl ?_
  refine wp_aload_n dX8_reads_25 rfl rfl ?_
  refine wn_getR dX8_reads_26 fRX8_51 o40 rfl rfl rfl ?_
  refine wp_iload_n dX8_reads_29 rfl rfl ?_
  refine wn_iald dX8_reads_30 (o41 13 rfl) rfl (nIx rfl (by omega)) (show a < 4 from ha) rfl ?_
  rw [hsi]
  refine wp_icmp_ge (t := 78) dX8_reads_31 rfl rfl (fun h31 => ?_) (fun h31 => ?_)
  · refine wp_ldc dX8_reads_78 kRX8_149 rfl ?_
    refine wp_iret dX8_reads_80 rfl rfl ?_
    have hk2 : k = n := by have := (nI_leI (by omega) (by omega)).mp h31; omega
    subst hk2
    rw [Nat.sub_self]
    exact Pd.mk
  · have hl : k < n := by have := mt (nI_leI (by omega) (by omega)).mpr h31; omega
    refine wp_aload_n dX8_reads_34 rfl rfl ?_
    refine wn_getR dX8_reads_35 fRX8_54 o40 rfl rfl rfl ?_
    refine wp_bipush (v := 24) dX8_reads_38 (by decide) rfl ?_
    refine wp_iload_n dX8_reads_40 rfl rfl ?_
    refine wp_imul dX8_reads_41 rfl ?_
    refine wp_iload_n dX8_reads_42 rfl rfl ?_
    refine wp_iadd dX8_reads_43 rfl ?_
    refine wn_iald dX8_reads_44 (o41 14 rfl) rfl (nIx ix_24 (by omega)) (by show _ < 96; omega) rfl ?_
    refine wp_istore_n (l' := [_, _, _, some _]) dX8_reads_45 rfl rfl ?_
    refine wp_iload_n dX8_reads_46 rfl rfl ?_
    refine wp_ldc dX8_reads_47 kRX8_149 rfl ?_
    refine wp_icmp_eq (t := 72) dX8_reads_49 rfl rfl (fun h49 => ?_) (fun h49 => ?_)
    · refine wp_iinc (l' := [_, _, some _, _]) (v := 1) dX8_reads_72 rfl (by decide) rfl rfl ?_
      refine wp_goto (t := 24) dX8_reads_75 rfl ?_
      rw [show n - k = (n - (k + 1)) + 1 by omega, fst1, if_neg (fun z => (of_decide_eq_true z).1 h49)]
      rw [nI_1]
      exact ih hl _
    · refine wp_aload_n dX8_reads_52 rfl rfl ?_
      refine wp_iload_n dX8_reads_53 rfl rfl ?_
      refine wn_callV1d dX8_reads_54 rRX8_103 (rcv_of o40 rfl) (Nat.le_of_ble_eq_true rfl) rfl (Nat.le_of_ble_eq_true rfl) rfl (c8_isLog) ?_
      rw [h1]
      refine wp_if_eq_b (t := 70) dX8_reads_57 rfl rfl (fun h57 => ?_) (fun h57 => ?_)
      · refine wp_iload_n dX8_reads_70 rfl rfl ?_
        refine wp_iret dX8_reads_71 rfl rfl ?_
        rw [show n - k = (n - (k + 1)) + 1 by omega, fst1, if_pos (show rsP _ _ c a k = true from decide_eq_true ⟨h49, fun z => h57 (nat_log hc z.1)⟩)]
        exact Pd.mk
      · obtain ⟨g, hgc, hge⟩ := log_nat hc h57
        have hkc : k < c := by have := (nI_eq (by omega) (by omega)).mp hge; omega
        refine wp_iload_n dX8_reads_60 rfl rfl ?_
        refine wp_aload_n dX8_reads_61 rfl rfl ?_
        refine wp_iload_n dX8_reads_62 rfl rfl ?_
        refine wp_iconst (v := 3) dX8_reads_63 (by decide) rfl ?_
        refine wn_callV2d dX8_reads_64 rRX8_93 (rcv_of o40 rfl) (Nat.le_of_ble_eq_true rfl) rfl rfl (Nat.le_of_ble_eq_true rfl) rfl (c8_of (j := k) (w := 3) (by omega) (by decide)) ?_
        refine wp_icmp_eq (t := 72) dX8_reads_67 rfl rfl (fun h67 => ?_) (fun h67 => ?_)
        · refine wp_iinc (l' := [_, _, some _, _]) (v := 1) dX8_reads_72 rfl (by decide) rfl rfl ?_
          refine wp_goto (t := 24) dX8_reads_75 rfl ?_
          rw [show n - k = (n - (k + 1)) + 1 by omega, fst1, if_neg (fun z => (of_decide_eq_true z).2 ⟨hkc, h67⟩)]
          rw [nI_1]
          exact ih hl _
        · refine wp_iload_n dX8_reads_70 rfl rfl ?_
          refine wp_iret dX8_reads_71 rfl rfl ?_
          rw [show n - k = (n - (k + 1)) + 1 by omega, fst1, if_pos (show rsP _ _ c a k = true from decide_eq_true ⟨h49, fun z => h67 z.2⟩)]
          exact Pd.mk
theorem c8_reads {s : Sn} {c : Nat} {x : Int32} (hQ : SQ (s.1 (41, 12, 0)) (s.1 (41, 13, 0))) (hc : c ≤ 12) (h1 : s.1 (41, 0, 0) 1 = nI c) : Ca (d + 2) MX8_reads [vR 40 0 0, vI x] (hN s) (Pd (rsA (s.1 (41, 0, 0)) (s.1 (41, 12, 0)) (s.1 (41, 13, 0)) (s.1 (41, 14, 0)) c x) s) := by
  change Wp _ _ 0 [some _, some _, none, none] [] _ _
  refine wp_iload_n dX8_reads_0 rfl rfl ?_
  refine wn_callS1d dX8_reads_1 rRX8_168 (Nat.le_of_ble_eq_true rfl) rfl (Nat.le_of_ble_eq_true rfl) rfl (c8_isSheet) ?_
  refine wp_if_ne_b (t := 10) dX8_reads_4 rfl rfl (fun h4 => ?_) (fun h4 => ?_)
  · obtain ⟨a, ha, rfl⟩ := sht h4
    obtain ⟨hs, n, hn, hsi⟩ := hQ a ha
    refine wp_aload_n dX8_reads_10 rfl rfl ?_
    refine wn_getR dX8_reads_11 fRX8_48 o40 rfl rfl rfl ?_
    refine wp_iload_n dX8_reads_14 rfl rfl ?_
    refine wn_iald dX8_reads_15 (o41 12 rfl) rfl (nIx rfl (by omega)) (show a < 4 from ha) rfl ?_
    refine wp_if_ge (t := 22) dX8_reads_16 rfl rfl (fun h16 => ?_) (fun h16 => ?_)
    · refine wp_iconst (v := 0) dX8_reads_22 (by decide) rfl ?_
      refine wp_istore_n (l' := [_, _, some _, _]) dX8_reads_23 rfl rfl ?_
      rw [rs_y ha h4 (Int32.not_lt.mpr h16) hn hsi]
      have h := l8_reads (d := d) (s := s) ha hn hsi hc h1 0 (Nat.zero_le _) none
      rw [Nat.sub_zero] at h
      exact h
    · refine wp_ldc dX8_reads_19 kRX8_171 rfl ?_
      refine wp_iret dX8_reads_21 rfl rfl ?_
      rw [rs_g ha h4 (Int32.not_le.mp h16)]
      exact Pd.mk
  · refine wp_ldc dX8_reads_7 kRX8_83 rfl ?_
    refine wp_iret dX8_reads_9 rfl rfl ?_
    exact ⟨_, _, rfl, rfl, (if_neg h4).symm, rfl⟩
theorem l7_reads {s : Sn} {f so si ce : Fl} {c n : Nat} (hV : RV s 0 f c) (h : SH s so si ce) (ha : a < 4) (hn : n ≤ 24) (hsi : si a = nI n) : ∀ k, k ≤ n → ∀ c1, Wp (d + 2) MX7_reads 29 [some (vR 10 0 0), c1, some (vR 28 a 0), some (vI (nI k))] [] (hN s) (Pd (fst1 (rsP f ce c a) (n - k) k) s) := by
  obtain ⟨p1, p2, p3⟩ := h a ha
  have hc := hV.2.2.2
  have hlc : s.1 (11, 0, 0) 6 = nI c := (hV.1.sc 1 (by decide)).trans hV.2.2.1
  have hcn : cn f = c := by unfold cn; rw [hV.2.2.1, nI_clamp (by omega)]
  refine ind_up (fun k hk ih => ?_)
  intro c1
  refine wp_iload_n dX7_reads_29 rfl rfl ?_
  refine wp_aload_n dX7_reads_30 rfl rfl ?_
  refine wn_getI dX7_reads_31 fRX7_264 (o28 ha) rfl rfl ?_
  rw [p2, hsi]
  refine wp_icmp_ge (t := 85) dX7_reads_34 rfl rfl (fun h34 => ?_) (fun h34 => ?_)
  · refine wp_ldc dX7_reads_85 kRX7_192 rfl ?_
    refine wp_iret dX7_reads_87 rfl rfl ?_
    have hk2 : k = n := by have := (nI_leI (by omega) (by omega)).mp h34; omega
    subst hk2
    rw [Nat.sub_self]
    exact Pd.mk
  · have hl : k < n := by have := mt (nI_leI (by omega) (by omega)).mpr h34; omega
    refine wp_aload_n dX7_reads_37 rfl rfl ?_
    refine wp_iload_n dX7_reads_38 rfl rfl ?_
    refine wn_callV1d dX7_reads_39 rRX7_277 (rcv_of (o28 ha) rfl) (Nat.le_of_ble_eq_true rfl) rfl (Nat.le_of_ble_eq_true rfl) rfl (c4_hasNumber ha (by omega)) ?_
    rw [p2, hsi, p3 k (by omega)]
    refine wp_if_eq_b (t := 79) dX7_reads_42 rfl rfl (fun h42 => ?_) (fun h42 => ?_)
    · refine wp_iinc (l' := [_, _, _, some _]) (v := 1) dX7_reads_79 rfl (by decide) rfl rfl ?_
      refine wp_goto (t := 29) dX7_reads_82 rfl ?_
      rw [show n - k = (n - (k + 1)) + 1 by omega, fst1, if_neg (fun z => h42 ⟨(nI_ltI (by omega) (by omega)).mpr hl, (of_decide_eq_true z).1⟩)]
      rw [nI_1]
      exact ih hl _
    · refine wp_aload_n dX7_reads_45 rfl rfl ?_
      refine wn_getR dX7_reads_46 fRX7_10 o10 rfl rfl rfl ?_
      refine wp_iload_n dX7_reads_49 rfl rfl ?_
      refine wn_callV1d dX7_reads_50 rRX7_77 (rcv_of (o11 (by decide)) rfl) (Nat.le_of_ble_eq_true rfl) rfl (Nat.le_of_ble_eq_true rfl) rfl (c3_hasLog (by decide)) ?_
      rw [hlc]
      refine wp_if_eq_b (t := 77) dX7_reads_53 rfl rfl (fun h53 => ?_) (fun h53 => ?_)
      · refine wp_iload_n dX7_reads_77 rfl rfl ?_
        refine wp_iret dX7_reads_78 rfl rfl ?_
        rw [show n - k = (n - (k + 1)) + 1 by omega, fst1, if_pos (show rsP _ _ c a k = true from decide_eq_true ⟨h42.2, fun z => h53 ⟨nat_log hc z.1, (nI_ltI (b := 12) (by omega) (by decide)).mpr (by omega)⟩⟩)]
        exact Pd.mk
      · obtain ⟨g, hgc, hge⟩ := log_nat hc h53.1
        have hkc : k < c := by have := (nI_eq (by omega) (by omega)).mp hge; omega
        have hk12 : k < 12 := by omega
        refine wp_aload_n dX7_reads_56 rfl rfl ?_
        refine wn_getR dX7_reads_57 fRX7_10 o10 rfl rfl rfl ?_
        refine wn_getR dX7_reads_60 fRX7_80 (o11 (by decide)) rfl rfl rfl ?_
        refine wp_iload_n dX7_reads_63 rfl rfl ?_
        refine wn_aald13 dX7_reads_64 (by decide) (nIx rfl (by omega)) hk12 rfl ?_
        refine wn_getI dX7_reads_65 fRX7_95 (o12 (by decide) hk12) rfl rfl ?_
        rw [show s.1 (12, 0, k) 3 = f (45 + 5 * k + 3) from hV.1.lg (by omega) hk12 (by decide)]
        refine wp_aload_n dX7_reads_68 rfl rfl ?_
        refine wn_getR dX7_reads_69 fRX7_272 (o28 ha) rfl rfl rfl ?_
        refine wp_iload_n dX7_reads_72 rfl rfl ?_
        refine wn_iald dX7_reads_73 (o29 ha) rfl (nIx rfl (by omega)) (show k < 24 by omega) rfl ?_
        rw [p3 k (by omega)]
        refine wp_icmp_eq (t := 79) dX7_reads_74 rfl rfl (fun h74 => ?_) (fun h74 => ?_)
        · refine wp_iinc (l' := [_, _, _, some _]) (v := 1) dX7_reads_79 rfl (by decide) rfl rfl ?_
          refine wp_goto (t := 29) dX7_reads_82 rfl ?_
          rw [show n - k = (n - (k + 1)) + 1 by omega, fst1, if_neg (fun z => (of_decide_eq_true z).2 ⟨hkc, h74.symm⟩)]
          rw [nI_1]
          exact ih hl _
        · refine wp_iload_n dX7_reads_77 rfl rfl ?_
          refine wp_iret dX7_reads_78 rfl rfl ?_
          rw [show n - k = (n - (k + 1)) + 1 by omega, fst1, if_pos (show rsP _ _ c a k = true from decide_eq_true ⟨h42.2, fun z => h74 z.2.symm⟩)]
          exact Pd.mk
theorem c7_reads {s : Sn} {f so si ce : Fl} {c : Nat} {x : Int32} (hV : RV s 0 f c) (h : SH s so si ce) (hQ : SQ so si) : Ca (d + 2) MX7_reads [vR 10 0 0, vI x] (hN s) (Pd (rsA f so si ce c x) s) := by
  change Wp _ _ 0 [some _, some _, none, none] [] _ _
  refine wp_iload_n dX7_reads_0 rfl rfl ?_
  refine wn_callS1d dX7_reads_1 rRX7_204 (Nat.le_of_ble_eq_true rfl) rfl (Nat.le_of_ble_eq_true rfl) rfl (c7_isSheet) ?_
  refine wp_if_ne_b (t := 10) dX7_reads_4 rfl rfl (fun h4 => ?_) (fun h4 => ?_)
  · obtain ⟨a, ha, rfl⟩ := sht h4
    obtain ⟨hs, n, hn, hsi⟩ := hQ a ha
    refine wp_aload_n dX7_reads_10 rfl rfl ?_
    refine wn_getR dX7_reads_11 fRX7_34 o10 rfl rfl rfl ?_
    refine wp_iload_n dX7_reads_14 rfl rfl ?_
    refine wn_aald25 dX7_reads_15 (nIx rfl (by omega)) ha rfl ?_
    refine wp_astore_n (l' := [_, _, some _, _]) dX7_reads_16 rfl rfl ?_
    refine wp_aload_n dX7_reads_17 rfl rfl ?_
    refine wn_callV0d dX7_reads_18 rRX7_207 (rcv_of (o28 ha) rfl) (Nat.le_of_ble_eq_true rfl)  (Nat.le_of_ble_eq_true rfl) rfl (c4_isMissing ha) ?_
    rw [(h a ha).1]
    refine wp_if_eq_b (t := 27) dX7_reads_21 rfl rfl (fun h21 => ?_) (fun h21 => ?_)
    · have hs0 : ¬ so a < 0 := fun z => hs.elim h21 (fun e => e.elim (fun e => absurd (e ▸ z) (by decide)) (fun e => absurd (e ▸ z) (by decide)))
      refine wp_iconst (v := 0) dX7_reads_27 (by decide) rfl ?_
      refine wp_istore_n (l' := [_, _, _, some _]) dX7_reads_28 rfl rfl ?_
      rw [rs_y ha h4 hs0 hn hsi]
      have h := l7_reads (d := d) hV h ha hn hsi 0 (Nat.zero_le _) (some (vI (nI a)))
      rw [Nat.sub_zero] at h
      exact h
    · refine wp_ldc dX7_reads_24 kRX7_210 rfl ?_
      refine wp_iret dX7_reads_26 rfl rfl ?_
      rw [rs_g ha h4 (by rw [h21]; decide)]
      exact Pd.mk
  · refine wp_ldc dX7_reads_7 kRX7_68 rfl ?_
    refine wp_iret dX7_reads_9 rfl rfl ?_
    exact ⟨_, _, rfl, rfl, (if_neg h4).symm, rfl⟩
end
