section
variable {d i : Nat}
def X16 (i : Nat) : Rf → Prop := fun r => r = (16, i, 0)
theorem l3_cnt {s : Sn} {f : Fl} {c : Nat} (hi : i < 4) (hR : RC s i f) (h1 : f 1 = nI c) (hc : c ≤ 12) (hr : ∀ g, g < 12 → ∃ r, r ≤ 13 ∧ f (45 + 5 * g + 3) = nI r) : ∀ k, k ≤ c → ∀ s1 : Sn, FQ (X16 i) s s1 → (∀ r, r < 12 → s1.1 (16, i, 0) r = nI (ctr (fun g => decide (f (45 + 5 * g + 3) = nI r)) k)) → Wp (d + 2) MX3_countHeld 23 [some (vR 11 i 0), some (vI (nI k))] [] (hN s1) (Pn fun t => HD t i f ∧ FQ (X16 i) s t) := by
  have hcn : cn f = c := by unfold cn; rw [h1, nI_clamp (by omega)]
  refine ind_up (fun k hk ih => ?_)
  intro s1 hF hz
  have hlc : s1.1 (11, i, 0) 6 = nI c := by rw [hF.1 _ (show ((11, i, 0) : Rf) ≠ (16, i, 0) by intro z; exact absurd (congrArg Prod.fst z) (by show ¬ 11 = 16; decide))]; exact (hR.sc 1 (by decide)).trans h1
  refine wp_iload_n dX3_countHeld_23 rfl rfl ?_
  refine wp_aload_n dX3_countHeld_24 rfl rfl ?_
  refine wn_getI dX3_countHeld_25 fRX3_36 (o11 hi) rfl rfl ?_
  rw [hlc]
  refine wp_icmp_ge (t := 67) dX3_countHeld_28 rfl rfl (fun h28 => ?_) (fun h28 => ?_)
  · refine wp_ret dX3_countHeld_67 rfl ?_
    have hkc : k = c := by have := (nI_leI (by omega) (by omega)).mp h28; omega
    subst hkc
    refine ⟨_, rfl, rfl, fun r hr12 => ?_, hF⟩
    rw [hz r hr12]
    unfold mny
    rw [hcn]
  · have hl : k < c := by have := mt (nI_leI (by omega) (by omega)).mpr h28; omega
    obtain ⟨q, hq13, hq⟩ := hr k (by omega)
    have hrd : s1.1 (12, i, k) 3 = nI q := by rw [hF.1 _ (show ((12, i, k) : Rf) ≠ (16, i, 0) by intro z; exact absurd (congrArg Prod.fst z) (by show ¬ 12 = 16; decide))]; exact (hR.lg (by omega) (by omega) (by decide)).trans hq
    refine wp_aload_n dX3_countHeld_31 rfl rfl ?_
    refine wn_getR dX3_countHeld_32 fRX3_11 (o11 hi) rfl rfl rfl ?_
    refine wp_iload_n dX3_countHeld_35 rfl rfl ?_
    refine wn_aald13 dX3_countHeld_36 hi (nIx rfl (by omega)) (show k < 12 by omega) rfl ?_
    refine wn_callV0d dX3_countHeld_37 rRX3_150 (rcv_of (o12 hi (show k < 12 by omega)) rfl) (Nat.le_of_ble_eq_true rfl)  (Nat.le_of_ble_eq_true rfl) rfl (c1_isAfloat hi (show k < 12 by omega)) ?_
    refine wp_if_eq_b (t := 61) dX3_countHeld_40 rfl rfl (fun h40 => ?_) (fun h40 => ?_)
    · refine wp_iinc (l' := [_, some _]) (v := 1) dX3_countHeld_61 rfl (by decide) rfl rfl ?_
      refine wp_goto (t := 23) dX3_countHeld_64 rfl ?_
      rw [hrd] at h40
      rw [nI_1]
      refine ih hl s1 hF (fun r hr12 => ?_)
      rw [hz r hr12]
      show _ = nI (ctr _ k + _)
      have hn : ¬ (decide (f (45 + 5 * k + 3) = nI r) = true) := by
        intro z
        rw [hq] at z
        have := (nI_eq (by omega) (by omega)).mp (of_decide_eq_true z)
        exact h40 ⟨nI_pos' (by omega), (nI_ltI (b := 12) (by omega) (by omega)).mpr (by omega)⟩
      rw [if_neg hn, Nat.add_zero]
    · rw [hrd] at h40
      have hq12 : q < 12 := (nI_ltI (b := 12) (by omega) (by omega)).mp h40.2
      refine wp_aload_n dX3_countHeld_43 rfl rfl ?_
      refine wn_getR dX3_countHeld_44 fRX3_24 (o11 hi) rfl rfl rfl ?_
      refine wp_aload_n dX3_countHeld_47 rfl rfl ?_
      refine wn_getR dX3_countHeld_48 fRX3_11 (o11 hi) rfl rfl rfl ?_
      refine wp_iload_n dX3_countHeld_51 rfl rfl ?_
      refine wn_aald13 dX3_countHeld_52 hi (nIx rfl (by omega)) (show k < 12 by omega) rfl ?_
      refine wn_getI dX3_countHeld_53 fRX3_91 (o12 hi (show k < 12 by omega)) rfl rfl ?_
      rw [hrd]
      refine wp_dup2 dX3_countHeld_56 rfl rfl rfl ?_
      refine wn_iald dX3_countHeld_57 (o16 hi) rfl (nIx rfl (by omega)) (show _ < 12 from hq12) rfl ?_
      rw [hz q hq12]
      refine wp_iconst (v := 1) dX3_countHeld_58 (by decide) rfl ?_
      refine wp_iadd dX3_countHeld_59 rfl ?_
      refine wn_iast dX3_countHeld_60 (o16 hi) rfl (nIx rfl (by omega)) (show _ < 12 from hq12) rfl ?_
      refine wp_iinc (l' := [_, some _]) (v := 1) dX3_countHeld_61 rfl (by decide) rfl rfl ?_
      refine wp_goto (t := 23) dX3_countHeld_64 rfl ?_
      rw [nI_1]
      refine ih hl _ (hF.pt rfl) (fun r hr12 => ?_)
      rw [sI_row]
      by_cases e : r = q
      · subst e
        rw [upd_eq, nI_1]
        show _ = nI (ctr _ k + _)
        rw [if_pos (decide_eq_true hq)]
      · rw [upd_ne e, hz r hr12]
        have hn : ¬ (decide (f (45 + 5 * k + 3) = nI r) = true) := by
          intro z
          rw [hq] at z
          exact e ((nI_eq (by omega) (by omega)).mp (of_decide_eq_true z)).symm
        show _ = nI (ctr _ k + _)
        rw [if_neg hn, Nat.add_zero]
theorem l3_clr {s : Sn} {f : Fl} {c : Nat} (hi : i < 4) (hR : RC s i f) (h1 : f 1 = nI c) (hc : c ≤ 12) (hr : ∀ g, g < 12 → ∃ r, r ≤ 13 ∧ f (45 + 5 * g + 3) = nI r) : ∀ k, k ≤ 12 → ∀ s1 : Sn, FQ (X16 i) s s1 → (∀ r, r < k → s1.1 (16, i, 0) r = 0) → Wp (d + 2) MX3_countHeld 2 [some (vR 11 i 0), some (vI (nI k))] [] (hN s1) (Pn fun t => HD t i f ∧ FQ (X16 i) s t) := by
  refine ind_up (fun k hk ih => ?_)
  intro s1 hF hz
  refine wp_iload_n dX3_countHeld_2 rfl rfl ?_
  refine wp_bipush (v := 12) dX3_countHeld_3 (by decide) rfl ?_
  refine wp_icmp_ge (t := 21) dX3_countHeld_5 rfl rfl (fun h5 => ?_) (fun h5 => ?_)
  · refine wp_iconst (v := 0) dX3_countHeld_21 (by decide) rfl ?_
    refine wp_istore_n (l' := [_, some _]) dX3_countHeld_22 rfl rfl ?_
    have hk12 : k = 12 := by have := (nI_leI (a := 12) (by omega) (by omega)).mp h5; omega
    exact l3_cnt hi hR h1 hc hr 0 (Nat.zero_le _) s1 hF (fun r hr2 => hz r (by omega))
  · have hl : k < 12 := by have := mt (nI_leI (a := 12) (by omega) (by omega)).mpr h5; omega
    refine wp_aload_n dX3_countHeld_8 rfl rfl ?_
    refine wn_getR dX3_countHeld_9 fRX3_24 (o11 hi) rfl rfl rfl ?_
    refine wp_iload_n dX3_countHeld_12 rfl rfl ?_
    refine wp_iconst (v := 0) dX3_countHeld_13 (by decide) rfl ?_
    refine wn_iast dX3_countHeld_14 (o16 hi) rfl (nIx rfl (by omega)) (show k < 12 from hl) rfl ?_
    refine wp_iinc (l' := [_, some _]) (v := 1) dX3_countHeld_15 rfl (by decide) rfl rfl ?_
    refine wp_goto (t := 2) dX3_countHeld_18 rfl ?_
    rw [nI_1]
    refine ih hl _ (hF.pt rfl) (fun r hr2 => ?_)
    rw [sI_row]
    by_cases e : r = k
    · rw [e, upd_eq]
    · rw [upd_ne e]; exact hz r (by omega)
theorem c3_countHeld {s : Sn} {f : Fl} {c : Nat} (hi : i < 4) (hR : RC s i f) (h1 : f 1 = nI c) (hc : c ≤ 12) (hr : ∀ g, g < 12 → ∃ r, r ≤ 13 ∧ f (45 + 5 * g + 3) = nI r) : Ca (d + 2) MX3_countHeld [vR 11 i 0] (hN s) (Pn fun t => HD t i f ∧ FQ (X16 i) s t) := by
  change Wp _ _ 0 [some _, none] [] _ _
  refine wp_iconst (v := 0) dX3_countHeld_0 (by decide) rfl ?_
  refine wp_istore_n (l' := [_, some _]) dX3_countHeld_1 rfl rfl ?_
  exact l3_clr hi hR h1 hc hr 0 (Nat.zero_le _) s FQ.rf (fun r z => absurd z (Nat.not_lt_zero r))
end
