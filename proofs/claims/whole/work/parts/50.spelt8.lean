/-! THE PURE PART, 33: the reference spells -/
section
variable {d i : Nat}
def lpA (f : Fl) (x : Nat) : Nat → Bool := fun h => decide (f (9 + h) = nI x)
def lpB (f : Fl) (x : Nat) : Nat → Bool := fun g => decide (f (45 + 5 * g + 3) = 12 ∧ f (45 + 5 * g + 1) = nI x)
def spl (f : Fl) (n c : Nat) : Nat → Nat
  | 0 => 0
  | x + 1 => spl f n c x + min (ctr (lpB f x) c) (ctr (lpA f x) n)
theorem spl_le {f : Fl} {n c : Nat} (hc : c ≤ 12) : ∀ x, spl f n c x ≤ 12 * x
  | 0 => Nat.le_refl _
  | x + 1 => by
    have h1 := spl_le (f := f) (n := n) hc x
    have h2 := ctr_le (lpB f x) c
    show spl f n c x + min (ctr (lpB f x) c) (ctr (lpA f x) n) ≤ _
    omega
theorem ix_9 {k : Nat} : (9 : Int32) + nI k = nI (9 + k) := by
  rw [show (9 : Int32) = nI 9 from rfl, nI_add]
theorem l8_sp1 {s : Sn} {n c x : Nat} {P : Option Av → St → Prop} (hn : n ≤ 12) (h7 : s.1 (41, 0, 0) 7 = nI n) (hc : c ≤ 12) (h1 : s.1 (41, 0, 0) 1 = nI c) {a : Int32} {c5 : Option Av} (kk : Wp (d + 1) MX8_spelt 55 [some (vR 40 0 0), some (vI a), some (vI (nI x)), some (vI (nI (ctr (lpA (s.1 (41, 0, 0)) x) n))), some (vI (nI n)), c5] [] (hN s) P) : ∀ k, k ≤ n → Wp (d + 1) MX8_spelt 15 [some (vR 40 0 0), some (vI a), some (vI (nI x)), some (vI (nI (ctr (lpA (s.1 (41, 0, 0)) x) k))), some (vI (nI k)), c5] [] (hN s) P := by
  refine ind_up (fun k hk ih => ?_)
  refine wp_iload dX8_spelt_15 rfl rfl ?_
  refine wp_aload_n dX8_spelt_17 rfl rfl ?_
  refine wn_getR dX8_spelt_18 fRX8_9 o40 rfl rfl rfl ?_
  refine wp_bipush (v := 7) dX8_spelt_21 (by decide) rfl ?_
  refine wn_iald (j := 7) dX8_spelt_23 (o41 0 rfl) rfl ⟨by decide, by decide⟩ (Nat.le_of_ble_eq_true rfl) rfl ?_
  rw [h7]
  refine wp_icmp_ge (t := 55) dX8_spelt_24 rfl rfl (fun h24 => ?_) (fun h24 => ?_)
  · have hkn : k = n := by have := (nI_leI (by omega) (by omega)).mp h24; omega
    subst hkn
    exact kk
  · have hl : k < n := by have := mt (nI_leI (by omega) (by omega)).mpr h24; omega
    refine wp_iload_n dX8_spelt_27 rfl rfl ?_
    refine wp_aload_n dX8_spelt_28 rfl rfl ?_
    refine wn_getR dX8_spelt_29 fRX8_9 o40 rfl rfl rfl ?_
    refine wp_bipush (v := 9) dX8_spelt_32 (by decide) rfl ?_
    refine wp_iload dX8_spelt_34 rfl rfl ?_
    refine wp_iadd dX8_spelt_36 rfl ?_
    refine wn_iald dX8_spelt_37 (o41 0 rfl) rfl (nIx ix_9 (by omega)) (by show _ < 1477; omega) rfl ?_
    refine wp_iload_n dX8_spelt_38 rfl rfl ?_
    refine wp_icmp_ne (t := 46) dX8_spelt_39 rfl rfl (fun h39 => ?_) (fun h39 => ?_)
    · refine wp_iconst (v := 0) dX8_spelt_46 (by decide) rfl ?_
      refine wp_iadd dX8_spelt_47 rfl ?_
      refine wp_istore_n (l' := [_, _, _, some _, _, _]) dX8_spelt_48 rfl rfl ?_
      refine wp_iinc (l' := [_, _, _, _, some _, _]) (v := 1) dX8_spelt_49 rfl (by decide) rfl rfl ?_
      refine wp_goto (t := 15) dX8_spelt_52 rfl ?_
      have hs : ctr (lpA (s.1 (41, 0, 0)) x) (k + 1) = ctr (lpA (s.1 (41, 0, 0)) x) k + 0 := by show ctr _ k + _ = _; rw [if_neg (show ¬ lpA (s.1 (41, 0, 0)) x k = true from fun z => h39 (of_decide_eq_true z))]
      have h := ih hl
      rw [hs, Nat.add_zero] at h
      rw [Int32.add_zero, nI_1]
      exact h
    · refine wp_iconst (v := 1) dX8_spelt_42 (by decide) rfl ?_
      refine wp_goto (t := 47) dX8_spelt_43 rfl ?_
      refine wp_iadd dX8_spelt_47 rfl ?_
      refine wp_istore_n (l' := [_, _, _, some _, _, _]) dX8_spelt_48 rfl rfl ?_
      refine wp_iinc (l' := [_, _, _, _, some _, _]) (v := 1) dX8_spelt_49 rfl (by decide) rfl rfl ?_
      refine wp_goto (t := 15) dX8_spelt_52 rfl ?_
      have hs : ctr (lpA (s.1 (41, 0, 0)) x) (k + 1) = ctr (lpA (s.1 (41, 0, 0)) x) k + 1 := by show ctr _ k + _ = _; rw [if_pos (show lpA (s.1 (41, 0, 0)) x k = true from decide_eq_true h39)]
      have h := ih hl
      rw [hs] at h
      rw [nI_1, nI_1]
      exact h
theorem l8_sp2 {s : Sn} {n c x : Nat} {P : Option Av → St → Prop} (hn : n ≤ 12) (h7 : s.1 (41, 0, 0) 7 = nI n) (hc : c ≤ 12) (h1 : s.1 (41, 0, 0) 1 = nI c) {a : Int32} {A : Nat} (hA : 0 < A) (hA12 : A ≤ 12) (kk : Wp (d + 1) MX8_spelt 115 [some (vR 40 0 0), some (vI a), some (vI (nI x)), some (vI (nI A)), some (vI (nI (ctr (lpB (s.1 (41, 0, 0)) x) c))), some (vI (nI c))] [] (hN s) P) : ∀ k, k ≤ c → Wp (d + 1) MX8_spelt 61 [some (vR 40 0 0), some (vI a), some (vI (nI x)), some (vI (nI A)), some (vI (nI (ctr (lpB (s.1 (41, 0, 0)) x) k))), some (vI (nI k))] [] (hN s) P := by
  refine ind_up (fun k hk ih => ?_)
  refine wp_iload dX8_spelt_61 rfl rfl ?_
  refine wp_aload_n dX8_spelt_63 rfl rfl ?_
  refine wn_getR dX8_spelt_64 fRX8_9 o40 rfl rfl rfl ?_
  refine wp_iconst (v := 1) dX8_spelt_67 (by decide) rfl ?_
  refine wn_iald (j := 1) dX8_spelt_68 (o41 0 rfl) rfl ⟨by decide, by decide⟩ (Nat.le_of_ble_eq_true rfl) rfl ?_
  rw [h1]
  refine wp_icmp_ge (t := 115) dX8_spelt_69 rfl rfl (fun h69 => ?_) (fun h69 => ?_)
  · have hkn : k = c := by have := (nI_leI (by omega) (by omega)).mp h69; omega
    subst hkn
    exact kk
  · have hl : k < c := by have := mt (nI_leI (by omega) (by omega)).mpr h69; omega
    refine wp_iload_n dX8_spelt_72 rfl rfl ?_
    refine wp_if_le (t := 115) dX8_spelt_73 rfl rfl (fun h73 => absurd ((nI_ltI (a := 0) (by omega) (by omega)).mpr hA) (Int32.not_lt.mpr h73)) (fun h73 => ?_)
    refine wp_iload dX8_spelt_76 rfl rfl ?_
    refine wp_aload_n dX8_spelt_78 rfl rfl ?_
    refine wp_iload dX8_spelt_79 rfl rfl ?_
    refine wp_iconst (v := 3) dX8_spelt_81 (by decide) rfl ?_
    refine wn_callV2d dX8_spelt_82 rRX8_93 (rcv_of o40 rfl) (Nat.le_of_ble_eq_true rfl) rfl rfl (Nat.le_of_ble_eq_true rfl) rfl (c8_of (w := 3) (show k < 12 by omega) (by decide)) ?_
    refine wp_bipush (v := 12) dX8_spelt_85 (by decide) rfl ?_
    refine wp_icmp_ne (t := 105) dX8_spelt_87 rfl rfl (fun h87 => ?_) (fun h87 => ?_)
    · refine wp_iconst (v := 0) dX8_spelt_105 (by decide) rfl ?_
      refine wp_iadd dX8_spelt_106 rfl ?_
      refine wp_istore (l' := [_, _, _, _, some _, _]) dX8_spelt_107 rfl rfl ?_
      refine wp_iinc (l' := [_, _, _, _, _, some _]) (v := 1) dX8_spelt_109 rfl (by decide) rfl rfl ?_
      refine wp_goto (t := 61) dX8_spelt_112 rfl ?_
      have hs : ctr (lpB (s.1 (41, 0, 0)) x) (k + 1) = ctr (lpB (s.1 (41, 0, 0)) x) k + 0 := by show ctr _ k + _ = _; rw [if_neg (show ¬ lpB (s.1 (41, 0, 0)) x k = true from fun z => h87 (of_decide_eq_true z).1)]
      have h := ih hl
      rw [hs, Nat.add_zero] at h
      rw [Int32.add_zero, nI_1]
      exact h
    · refine wp_aload_n dX8_spelt_90 rfl rfl ?_
      refine wp_iload dX8_spelt_91 rfl rfl ?_
      refine wp_iconst (v := 1) dX8_spelt_93 (by decide) rfl ?_
      refine wn_callV2d dX8_spelt_94 rRX8_93 (rcv_of o40 rfl) (Nat.le_of_ble_eq_true rfl) rfl rfl (Nat.le_of_ble_eq_true rfl) rfl (c8_of (w := 1) (show k < 12 by omega) (by decide)) ?_
      refine wp_iload_n dX8_spelt_97 rfl rfl ?_
      refine wp_icmp_ne (t := 105) dX8_spelt_98 rfl rfl (fun h98 => ?_) (fun h98 => ?_)
      · refine wp_iconst (v := 0) dX8_spelt_105 (by decide) rfl ?_
        refine wp_iadd dX8_spelt_106 rfl ?_
        refine wp_istore (l' := [_, _, _, _, some _, _]) dX8_spelt_107 rfl rfl ?_
        refine wp_iinc (l' := [_, _, _, _, _, some _]) (v := 1) dX8_spelt_109 rfl (by decide) rfl rfl ?_
        refine wp_goto (t := 61) dX8_spelt_112 rfl ?_
        have hs : ctr (lpB (s.1 (41, 0, 0)) x) (k + 1) = ctr (lpB (s.1 (41, 0, 0)) x) k + 0 := by show ctr _ k + _ = _; rw [if_neg (show ¬ lpB (s.1 (41, 0, 0)) x k = true from fun z => h98 (of_decide_eq_true z).2)]
        have h := ih hl
        rw [hs, Nat.add_zero] at h
        rw [Int32.add_zero, nI_1]
        exact h
      · refine wp_iconst (v := 1) dX8_spelt_101 (by decide) rfl ?_
        refine wp_goto (t := 106) dX8_spelt_102 rfl ?_
        refine wp_iadd dX8_spelt_106 rfl ?_
        refine wp_istore (l' := [_, _, _, _, some _, _]) dX8_spelt_107 rfl rfl ?_
        refine wp_iinc (l' := [_, _, _, _, _, some _]) (v := 1) dX8_spelt_109 rfl (by decide) rfl rfl ?_
        refine wp_goto (t := 61) dX8_spelt_112 rfl ?_
        have hs : ctr (lpB (s.1 (41, 0, 0)) x) (k + 1) = ctr (lpB (s.1 (41, 0, 0)) x) k + 1 := by show ctr _ k + _ = _; rw [if_pos (show lpB (s.1 (41, 0, 0)) x k = true from decide_eq_true ⟨h87, h98⟩)]
        have h := ih hl
        rw [hs] at h
        rw [nI_1, nI_1]
        exact h
theorem l8_sp4 {s : Sn} {n c : Nat} (hn : n ≤ 12) (h77 : s.1 (41, 0, 0) 7 = nI n) (hc : c ≤ 12) (h1 : s.1 (41, 0, 0) 1 = nI c) : ∀ x, x ≤ 26 → ∀ c3 c4 c5 : Option Av, Wp (d + 1) MX8_spelt 4 [some (vR 40 0 0), some (vI (nI (spl (s.1 (41, 0, 0)) n c x))), some (vI (nI x)), c3, c4, c5] [] (hN s) (Pd (nI (spl (s.1 (41, 0, 0)) n c 26)) s) := by
  refine ind_up (fun x hx ih => ?_)
  intro c3 c4 c5
  obtain ⟨A, eA⟩ : ∃ A, A = (ctr (lpA (s.1 (41, 0, 0)) x) n) := ⟨_, rfl⟩
  have hA12 : A ≤ 12 := by have := ctr_le (lpA (s.1 (41, 0, 0)) x) n; omega
  have hB12 := ctr_le (lpB (s.1 (41, 0, 0)) x) c
  have k115 : x < 26 → ∀ (B : Nat) (c5 : Option Av), B ≤ 12 → min B A = min (ctr (lpB (s.1 (41, 0, 0)) x) c) A → Wp (d + 1) MX8_spelt 115 [some (vR 40 0 0), some (vI (nI (spl (s.1 (41, 0, 0)) n c x))), some (vI (nI x)), some (vI (nI A)), some (vI (nI B)), c5] [] (hN s) (Pd (nI (spl (s.1 (41, 0, 0)) n c 26)) s) := by
    intro hl B c5 hBB hB
    refine wp_iload_n dX8_spelt_115 rfl rfl ?_
    refine wp_iload dX8_spelt_116 rfl rfl ?_
    refine wp_iload_n dX8_spelt_118 rfl rfl ?_
    refine wp_icmp_ge (t := 127) dX8_spelt_119 rfl rfl (fun h119 => ?_) (fun h119 => ?_)
    · refine wp_iload_n dX8_spelt_127 rfl rfl ?_
      refine wp_iadd dX8_spelt_128 rfl ?_
      refine wp_istore_n (l' := [_, some _, _, _, _, _]) dX8_spelt_129 rfl rfl ?_
      refine wp_iinc (l' := [_, _, some _, _, _, _]) (v := 1) dX8_spelt_130 rfl (by decide) rfl rfl ?_
      refine wp_goto (t := 4) dX8_spelt_133 rfl ?_
      have hs : (spl (s.1 (41, 0, 0)) n c (x + 1)) = (spl (s.1 (41, 0, 0)) n c x) + A := by
        have := (nI_leI (by omega) (by omega)).mp h119
        show (spl (s.1 (41, 0, 0)) n c x) + min (ctr (lpB (s.1 (41, 0, 0)) x) c) (ctr (lpA (s.1 (41, 0, 0)) x) n) = _
        rw [← eA, ← hB]
        omega
      have h := ih hl (some (vI (nI A))) (some (vI (nI B))) c5
      rw [hs] at h
      rw [nI_1, nI_add]
      exact h
    · refine wp_iload dX8_spelt_122 rfl rfl ?_
      refine wp_goto (t := 128) dX8_spelt_124 rfl ?_
      refine wp_iadd dX8_spelt_128 rfl ?_
      refine wp_istore_n (l' := [_, some _, _, _, _, _]) dX8_spelt_129 rfl rfl ?_
      refine wp_iinc (l' := [_, _, some _, _, _, _]) (v := 1) dX8_spelt_130 rfl (by decide) rfl rfl ?_
      refine wp_goto (t := 4) dX8_spelt_133 rfl ?_
      have hs : (spl (s.1 (41, 0, 0)) n c (x + 1)) = (spl (s.1 (41, 0, 0)) n c x) + B := by
        have := mt (nI_leI (by omega) (by omega)).mpr h119
        show (spl (s.1 (41, 0, 0)) n c x) + min (ctr (lpB (s.1 (41, 0, 0)) x) c) (ctr (lpA (s.1 (41, 0, 0)) x) n) = _
        rw [← eA, ← hB]
        omega
      have h := ih hl (some (vI (nI A))) (some (vI (nI B))) c5
      rw [hs] at h
      rw [nI_1, nI_add]
      exact h
  refine wp_iload_n dX8_spelt_4 rfl rfl ?_
  refine wp_bipush (v := 26) dX8_spelt_5 (by decide) rfl ?_
  refine wp_icmp_ge (t := 136) dX8_spelt_7 rfl rfl (fun h7 => ?_) (fun h7 => ?_)
  · refine wp_iload_n dX8_spelt_136 rfl rfl ?_
    refine wp_iret dX8_spelt_137 rfl rfl ?_
    have hx26 : x = 26 := by have := (nI_leI (a := 26) (by omega) (by omega)).mp h7; omega
    rw [hx26]
    exact Pd.mk
  · have hl : x < 26 := by have := mt (nI_leI (a := 26) (by omega) (by omega)).mpr h7; omega
    refine wp_iconst (v := 0) dX8_spelt_10 (by decide) rfl ?_
    refine wp_istore_n (l' := [_, _, _, some _, _, _]) dX8_spelt_11 rfl rfl ?_
    refine wp_iconst (v := 0) dX8_spelt_12 (by decide) rfl ?_
    refine wp_istore (l' := [_, _, _, _, some _, _]) dX8_spelt_13 rfl rfl ?_
    refine l8_sp1 hn h77 hc h1 ?_ 0 (Nat.zero_le _)
    rw [← eA]
    refine wp_iconst (v := 0) dX8_spelt_55 (by decide) rfl ?_
    refine wp_istore (l' := [_, _, _, _, some _, _]) dX8_spelt_56 rfl rfl ?_
    refine wp_iconst (v := 0) dX8_spelt_58 (by decide) rfl ?_
    refine wp_istore (l' := [_, _, _, _, _, some _]) dX8_spelt_59 rfl rfl ?_
    by_cases hA : 0 < A
    · refine l8_sp2 hn h77 hc h1 hA hA12 ?_ 0 (Nat.zero_le _)
      exact k115 hl _ _ (by omega) rfl
    · have hA0 : A = 0 := by omega
      refine wp_iload dX8_spelt_61 rfl rfl ?_
      refine wp_aload_n dX8_spelt_63 rfl rfl ?_
      refine wn_getR dX8_spelt_64 fRX8_9 o40 rfl rfl rfl ?_
      refine wp_iconst (v := 1) dX8_spelt_67 (by decide) rfl ?_
      refine wn_iald (j := 1) dX8_spelt_68 (o41 0 rfl) rfl ⟨by decide, by decide⟩ (Nat.le_of_ble_eq_true rfl) rfl ?_
      rw [h1]
      refine wp_icmp_ge (t := 115) dX8_spelt_69 rfl rfl (fun h69 => ?_) (fun h69 => ?_)
      · exact k115 hl 0 _ (by omega) (by omega)
      · refine wp_iload_n dX8_spelt_72 rfl rfl ?_
        refine wp_if_le (t := 115) dX8_spelt_73 rfl rfl (fun h73 => ?_) (fun h73 => absurd (show nI A ≤ 0 by rw [hA0]; decide) h73)
        exact k115 hl 0 _ (by omega) (by omega)
theorem c8_spelt {s : Sn} {n c : Nat} (hn : n ≤ 12) (h77 : s.1 (41, 0, 0) 7 = nI n) (hc : c ≤ 12) (h1 : s.1 (41, 0, 0) 1 = nI c) : Ca (d + 1) MX8_spelt [vR 40 0 0] (hN s) (Pd (nI (spl (s.1 (41, 0, 0)) n c 26)) s) := by
  change Wp _ _ 0 [some _, none, none, none, none, none] [] _ _
  refine wp_iconst (v := 0) dX8_spelt_0 (by decide) rfl ?_
  refine wp_istore_n (l' := [_, some _, _, _, _, _]) dX8_spelt_1 rfl rfl ?_
  refine wp_iconst (v := 0) dX8_spelt_2 (by decide) rfl ?_
  refine wp_istore_n (l' := [_, _, some _, _, _, _]) dX8_spelt_3 rfl rfl ?_
  exact l8_sp4 hn h77 hc h1 0 (Nat.zero_le _) _ _ _
end
