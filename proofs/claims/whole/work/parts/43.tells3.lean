section
variable {d i : Nat}
theorem l3_rsm {s : Sn} {f : Fl} {c : Nat} (hi : i < 4) (hR : RC s i f) (h1 : f 1 = nI c) (hc : c ≤ 12) : ∀ k, k ≤ c → Wp d MX3_reachesTogether 4 [some (vR 11 i 0), some (vI (rsm f k)), some (vI (nI k))] [] (hN s) (Pd (rsm f c) s) := by
  have hlc : s.1 (11, i, 0) 6 = nI c := (hR.sc 1 (by decide)).trans h1
  have hcn : cn f = c := by unfold cn; rw [h1, nI_clamp (by omega)]
  refine ind_up (fun k hk ih => ?_)
  refine wp_iload_n dX3_reachesTogether_4 rfl rfl ?_
  refine wp_aload_n dX3_reachesTogether_5 rfl rfl ?_
  refine wn_getI dX3_reachesTogether_6 fRX3_36 (o11 hi) rfl rfl ?_
  rw [hlc]
  refine wp_icmp_ge (t := 30) dX3_reachesTogether_9 rfl rfl (fun h9 => ?_) (fun h9 => ?_)
  · refine wp_iload_n dX3_reachesTogether_30 rfl rfl ?_
    refine wp_iret dX3_reachesTogether_31 rfl rfl ?_
    have hk12 : k = c := by have := (nI_leI (by omega) (by omega)).mp h9; omega
    rw [hk12]
    exact Pd.mk
  · have hl : k < c := by have := mt (nI_leI (by omega) (by omega)).mpr h9; omega
    have hrd : s.1 (12, i, k) 3 = f (45 + 5 * k + 3) := hR.lg (by omega) (by omega) (by decide)
    refine wp_iload_n dX3_reachesTogether_12 rfl rfl ?_
    refine wp_aload_n dX3_reachesTogether_13 rfl rfl ?_
    refine wn_getR dX3_reachesTogether_14 fRX3_11 (o11 hi) rfl rfl rfl ?_
    refine wp_iload_n dX3_reachesTogether_17 rfl rfl ?_
    refine wn_aald13 dX3_reachesTogether_18 hi (nIx rfl (by omega)) (show k < 12 by omega) rfl ?_
    refine wn_getI dX3_reachesTogether_19 fRX3_91 (o12 hi (show k < 12 by omega)) rfl rfl ?_
    rw [hrd]
    refine wp_iadd dX3_reachesTogether_22 rfl ?_
    refine wp_istore_n (l' := [_, some _, _]) dX3_reachesTogether_23 rfl rfl ?_
    refine wp_iinc (l' := [_, _, some _]) (v := 1) dX3_reachesTogether_24 rfl (by decide) rfl rfl ?_
    refine wp_goto (t := 4) dX3_reachesTogether_27 rfl ?_
    rw [nI_1]
    exact ih hl
theorem c3_reachesTogether {s : Sn} {f : Fl} {c : Nat} (hi : i < 4) (hR : RC s i f) (h1 : f 1 = nI c) (hc : c ≤ 12) : Ca d MX3_reachesTogether [vR 11 i 0] (hN s) (Pd (rsm f c) s) := by
  change Wp _ _ 0 [some _, none, none] [] _ _
  refine wp_iconst (v := 0) dX3_reachesTogether_0 (by decide) rfl ?_
  refine wp_istore_n (l' := [_, some _, _]) dX3_reachesTogether_1 rfl rfl ?_
  refine wp_iconst (v := 0) dX3_reachesTogether_2 (by decide) rfl ?_
  refine wp_istore_n (l' := [_, _, some _]) dX3_reachesTogether_3 rfl rfl ?_
  exact l3_rsm hi hR h1 hc 0 (Nat.zero_le _)
theorem l3_afl {s : Sn} {f : Fl} {c : Nat} (hi : i < 4) (hR : RC s i f) (h1 : f 1 = nI c) (hc : c ≤ 12) (hr : ∀ g, g < 12 → ∃ r, r ≤ 13 ∧ f (45 + 5 * g + 3) = nI r) : ∀ k, k ≤ c → Wp (d + 2) MX3_afloat 4 [some (vR 11 i 0), some (vI (afl f k)), some (vI (nI k))] [] (hN s) (Pd (afl f c) s) := by
  have hlc : s.1 (11, i, 0) 6 = nI c := (hR.sc 1 (by decide)).trans h1
  have hcn : cn f = c := by unfold cn; rw [h1, nI_clamp (by omega)]
  refine ind_up (fun k hk ih => ?_)
  refine wp_iload_n dX3_afloat_4 rfl rfl ?_
  refine wp_aload_n dX3_afloat_5 rfl rfl ?_
  refine wn_getI dX3_afloat_6 fRX3_36 (o11 hi) rfl rfl ?_
  rw [hlc]
  refine wp_icmp_ge (t := 36) dX3_afloat_9 rfl rfl (fun h9 => ?_) (fun h9 => ?_)
  · refine wp_iload_n dX3_afloat_36 rfl rfl ?_
    refine wp_iret dX3_afloat_37 rfl rfl ?_
    have hk12 : k = c := by have := (nI_leI (by omega) (by omega)).mp h9; omega
    rw [hk12]
    exact Pd.mk
  · have hl : k < c := by have := mt (nI_leI (by omega) (by omega)).mpr h9; omega
    have hrd : s.1 (12, i, k) 3 = f (45 + 5 * k + 3) := hR.lg (by omega) (by omega) (by decide)
    obtain ⟨q, hq13, hq⟩ := hr k (by omega)
    refine wp_aload_n dX3_afloat_12 rfl rfl ?_
    refine wn_getR dX3_afloat_13 fRX3_11 (o11 hi) rfl rfl rfl ?_
    refine wp_iload_n dX3_afloat_16 rfl rfl ?_
    refine wn_aald13 dX3_afloat_17 hi (nIx rfl (by omega)) (show k < 12 by omega) rfl ?_
    refine wn_callV0d dX3_afloat_18 rRX3_150 (rcv_of (o12 hi (show k < 12 by omega)) rfl) (Nat.le_of_ble_eq_true rfl)  (Nat.le_of_ble_eq_true rfl) rfl (c1_isAfloat hi (show k < 12 by omega)) ?_
    refine wp_if_eq_b (t := 30) dX3_afloat_21 rfl rfl (fun h21 => ?_) (fun h21 => ?_)
    · refine wp_iinc (l' := [_, _, some _]) (v := 1) dX3_afloat_30 rfl (by decide) rfl rfl ?_
      refine wp_goto (t := 4) dX3_afloat_33 rfl ?_
      have hn : ¬ f (45 + 5 * k + 3) < 12 := fun z => h21 ⟨by rw [hrd, hq]; exact nI_pos' (by omega), by rw [hrd]; exact z⟩
      have hs : afl f (k + 1) = afl f k := by
        rw [afl, if_neg hn, Int32.or_zero]
      have h := ih hl
      rw [hs] at h
      rw [nI_1]
      exact h
    · refine wp_iload_n dX3_afloat_24 rfl rfl ?_
      refine wp_iconst (v := 1) dX3_afloat_25 (by decide) rfl ?_
      refine wp_iload_n dX3_afloat_26 rfl rfl ?_
      refine wp_ishl dX3_afloat_27 rfl ?_
      refine wp_ior dX3_afloat_28 rfl ?_
      refine wp_istore_n (l' := [_, some _, _]) dX3_afloat_29 rfl rfl ?_
      refine wp_iinc (l' := [_, _, some _]) (v := 1) dX3_afloat_30 rfl (by decide) rfl rfl ?_
      refine wp_goto (t := 4) dX3_afloat_33 rfl ?_
      have hn : f (45 + 5 * k + 3) < 12 := by rw [← hrd]; exact h21.2
      have hs : afl f (k + 1) = afl f k ||| 1 <<< (nI k &&& 31) := by
        rw [afl, if_pos hn]
      have h := ih hl
      rw [hs] at h
      rw [nI_1]
      exact h
theorem c3_afloat {s : Sn} {f : Fl} {c : Nat} (hi : i < 4) (hR : RC s i f) (h1 : f 1 = nI c) (hc : c ≤ 12) (hr : ∀ g, g < 12 → ∃ r, r ≤ 13 ∧ f (45 + 5 * g + 3) = nI r) : Ca (d + 2) MX3_afloat [vR 11 i 0] (hN s) (Pd (afl f c) s) := by
  change Wp _ _ 0 [some _, none, none] [] _ _
  refine wp_iconst (v := 0) dX3_afloat_0 (by decide) rfl ?_
  refine wp_istore_n (l' := [_, some _, _]) dX3_afloat_1 rfl rfl ?_
  refine wp_iconst (v := 0) dX3_afloat_2 (by decide) rfl ?_
  refine wp_istore_n (l' := [_, _, some _]) dX3_afloat_3 rfl rfl ?_
  exact l3_afl hi hR h1 hc hr 0 (Nat.zero_le _)
theorem l3_jam {s : Sn} {f : Fl} (hi : i < 4) (hR : RC s i f) (hH : HD s i f) : ∀ k, k ≤ 12 → Wp (d + 1) MX3_jammed 8 [some (vR 11 i 0), some (vI (jm f k)), some (vI (nI k))] [] (hN s) (Pd (jm f 12) s) := by
  refine ind_up (fun k hk ih => ?_)
  refine wp_iload_n dX3_jammed_8 rfl rfl ?_
  refine wp_bipush (v := 12) dX3_jammed_9 (by decide) rfl ?_
  refine wp_icmp_ge (t := 44) dX3_jammed_11 rfl rfl (fun h11 => ?_) (fun h11 => ?_)
  · refine wp_iload_n dX3_jammed_44 rfl rfl ?_
    refine wp_iret dX3_jammed_45 rfl rfl ?_
    have hk12 : k = 12 := by have := (nI_leI (a := 12) (by omega) (by omega)).mp h11; omega
    rw [hk12]
    exact Pd.mk
  · have hl : k < 12 := by have := mt (nI_leI (a := 12) (by omega) (by omega)).mpr h11; omega
    refine wp_aload_n dX3_jammed_14 rfl rfl ?_
    refine wn_getR dX3_jammed_15 fRX3_24 (o11 hi) rfl rfl rfl ?_
    refine wp_iload_n dX3_jammed_18 rfl rfl ?_
    refine wn_iald dX3_jammed_19 (o16 hi) rfl (nIx rfl (by omega)) (show k < 12 from hl) rfl ?_
    rw [hH k hl]
    refine wp_aload_n dX3_jammed_20 rfl rfl ?_
    refine wn_getR dX3_jammed_21 fRX3_17 (o11 hi) rfl rfl rfl ?_
    refine wp_iload_n dX3_jammed_24 rfl rfl ?_
    refine wn_iald dX3_jammed_25 (o14 hi) rfl (nIx rfl (by omega)) (show k < 12 from hl) rfl ?_
    rw [hR.rm hl]
    refine wp_icmp_lt (t := 38) dX3_jammed_26 rfl rfl (fun h26 => ?_) (fun h26 => ?_)
    · refine wp_iinc (l' := [_, _, some _]) (v := 1) dX3_jammed_38 rfl (by decide) rfl rfl ?_
      refine wp_goto (t := 8) dX3_jammed_41 rfl ?_
      have hs : jm f (k + 1) = jm f k := by
        rw [jm, if_pos h26, Int32.add_zero]
      have h := ih hl
      rw [hs] at h
      rw [nI_1]
      exact h
    · refine wp_iload_n dX3_jammed_29 rfl rfl ?_
      refine wp_aload_n dX3_jammed_30 rfl rfl ?_
      refine wn_getR dX3_jammed_31 fRX3_24 (o11 hi) rfl rfl rfl ?_
      refine wp_iload_n dX3_jammed_34 rfl rfl ?_
      refine wn_iald dX3_jammed_35 (o16 hi) rfl (nIx rfl (by omega)) (show k < 12 from hl) rfl ?_
      rw [hH k hl]
      refine wp_iadd dX3_jammed_36 rfl ?_
      refine wp_istore_n (l' := [_, some _, _]) dX3_jammed_37 rfl rfl ?_
      refine wp_iinc (l' := [_, _, some _]) (v := 1) dX3_jammed_38 rfl (by decide) rfl rfl ?_
      refine wp_goto (t := 8) dX3_jammed_41 rfl ?_
      have hs : jm f (k + 1) = jm f k + nI (mny f (nI k)) := by
        rw [jm, if_neg h26]
      have h := ih hl
      rw [hs] at h
      rw [nI_1]
      exact h
theorem c3_jammed {s : Sn} {f : Fl} {c : Nat} (hi : i < 4) (hR : RC s i f) (h1 : f 1 = nI c) (hc : c ≤ 12) (hr : ∀ g, g < 12 → ∃ r, r ≤ 13 ∧ f (45 + 5 * g + 3) = nI r) : Ca (d + 3) MX3_jammed [vR 11 i 0] (hN s) (Pv fun x t => x = jm f 12 ∧ HD t i f ∧ FQ (X16 i) s t) := by
  change Wp _ _ 0 [some _, none, none] [] _ _
  refine wp_aload_n dX3_jammed_0 rfl rfl ?_
  refine wn_callV0n dX3_jammed_1 rRX3_136 (rcv_of (o11 hi) rfl) (Nat.le_of_ble_eq_true rfl)  (Nat.le_of_ble_eq_true rfl) rfl (c3_countHeld hi hR h1 hc hr) (fun s1 hq1 => ?_)
  obtain ⟨hH1, hF1⟩ := hq1
  have hR1 : RC s1 i f := hR.cg (fun r _ hr => hF1.1 r (fun z => by rw [show r = (16, i, 0) from z] at hr; exact absurd hr (by show ¬ (16 = 11 ∨ 16 = 17 ∨ 16 = 14 ∨ 16 = 15 ∨ 16 = 12); decide))) (fun _ _ => rfl)
  refine wp_iconst (v := 0) dX3_jammed_4 (by decide) rfl ?_
  refine wp_istore_n (l' := [_, some _, _]) dX3_jammed_5 rfl rfl ?_
  refine wp_iconst (v := 0) dX3_jammed_6 (by decide) rfl ?_
  refine wp_istore_n (l' := [_, _, some _]) dX3_jammed_7 rfl rfl ?_
  refine (l3_jam hi hR1 hH1 0 (Nat.zero_le _)).conseq ?_
  rintro v σ1 ⟨x, t, rfl, rfl, rfl, rfl⟩
  exact ⟨_, _, rfl, rfl, rfl, hH1, hF1⟩
theorem l3_rdl {s : Sn} {f : Fl} {c : Nat} (hi : i < 4) (hR : RC s i f) (h1 : f 1 = nI c) (hc : c ≤ 12) {x : Int32} (hU : UQ f c) (hx : x + 1 ≠ 0) : ∀ k, k ≤ c → (∀ h, h < k → ¬ f (45 + 5 * h + 4) = x + 1) → Wp d MX3_letterRead 2 [some (vR 11 i 0), some (vI x), some (vI (nI k))] [] (hN s) (Pd (rdl f x c) s) := by
  have hlc : s.1 (11, i, 0) 6 = nI c := (hR.sc 1 (by decide)).trans h1
  have hcn : cn f = c := by unfold cn; rw [h1, nI_clamp (by omega)]
  refine ind_up (fun k hk ih => ?_)
  intro hno
  refine wp_iload_n dX3_letterRead_2 rfl rfl ?_
  refine wp_aload_n dX3_letterRead_3 rfl rfl ?_
  refine wn_getI dX3_letterRead_4 fRX3_36 (o11 hi) rfl rfl ?_
  rw [hlc]
  refine wp_icmp_ge (t := 41) dX3_letterRead_7 rfl rfl (fun h7 => ?_) (fun h7 => ?_)
  · refine wp_ldc dX3_letterRead_41 kRX3_111 rfl ?_
    refine wp_iret dX3_letterRead_43 rfl rfl ?_
    have hk12 : k = c := by have := (nI_leI (by omega) (by omega)).mp h7; omega
    rw [rdl_no c (hk12 ▸ hno)]
    exact Pd.mk
  · have hl : k < c := by have := mt (nI_leI (by omega) (by omega)).mpr h7; omega
    have hrd : s.1 (12, i, k) 4 = f (45 + 5 * k + 4) := hR.lg (by omega) (by omega) (by decide)
    have hrl : s.1 (12, i, k) 1 = f (45 + 5 * k + 1) := hR.lg (by omega) (by omega) (by decide)
    refine wp_aload_n dX3_letterRead_10 rfl rfl ?_
    refine wn_getR dX3_letterRead_11 fRX3_11 (o11 hi) rfl rfl rfl ?_
    refine wp_iload_n dX3_letterRead_14 rfl rfl ?_
    refine wn_aald13 dX3_letterRead_15 hi (nIx rfl (by omega)) (show k < 12 by omega) rfl ?_
    refine wn_getI dX3_letterRead_16 fRX3_94 (o12 hi (show k < 12 by omega)) rfl rfl ?_
    refine wp_iload_n dX3_letterRead_19 rfl rfl ?_
    refine wp_iconst (v := 1) dX3_letterRead_20 (by decide) rfl ?_
    refine wp_iadd dX3_letterRead_21 rfl ?_
    rw [hrd]
    refine wp_icmp_ne (t := 35) dX3_letterRead_22 rfl rfl (fun h22 => ?_) (fun h22 => ?_)
    · refine wp_iinc (l' := [_, _, some _]) (v := 1) dX3_letterRead_35 rfl (by decide) rfl rfl ?_
      refine wp_goto (t := 2) dX3_letterRead_38 rfl ?_
      rw [nI_1]
      exact ih hl (fun h hh => by by_cases e : h = k; exact e ▸ h22; exact hno h (by omega))
    · refine wp_aload_n dX3_letterRead_25 rfl rfl ?_
      refine wn_getR dX3_letterRead_26 fRX3_11 (o11 hi) rfl rfl rfl ?_
      refine wp_iload_n dX3_letterRead_29 rfl rfl ?_
      refine wn_aald13 dX3_letterRead_30 hi (nIx rfl (by omega)) (show k < 12 by omega) rfl ?_
      refine wn_getI dX3_letterRead_31 fRX3_85 (o12 hi (show k < 12 by omega)) rfl rfl ?_
      rw [hrl]
      refine wp_iret dX3_letterRead_34 rfl rfl ?_
      rw [rdl_at h22 c (fun h hh e => hU h k hh hl (e.trans h22.symm) (fun z => hx (e.symm.trans z))) hl]
      exact Pd.mk
theorem c3_letterRead {s : Sn} {f : Fl} {c : Nat} (hi : i < 4) (hR : RC s i f) (h1 : f 1 = nI c) (hc : c ≤ 12) {x : Int32} (hU : UQ f c) (hx : x + 1 ≠ 0) : Ca d MX3_letterRead [vR 11 i 0, vI x] (hN s) (Pd (rdl f x c) s) := by
  change Wp _ _ 0 [some _, some _, none] [] _ _
  refine wp_iconst (v := 0) dX3_letterRead_0 (by decide) rfl ?_
  refine wp_istore_n (l' := [_, _, some _]) dX3_letterRead_1 rfl rfl ?_
  exact l3_rdl hi hR h1 hc hU hx 0 (Nat.zero_le _) (fun h hh => absurd hh (Nat.not_lt_zero h))
end
