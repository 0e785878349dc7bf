/-! THE PURE PART, 40: a row is copied whole -/
section
variable {d : Nat} {s : Sn}
theorem l8_cpa {a b : Nat} (ha : ∀ s : Sn, okr (hN s) (41, a, 0) = true) (hb : ∀ s : Sn, okr (hN s) (41, b, 0) = true) (la : mln.getD a 0 = 1477) (lb : mln.getD b 0 = 1477) (hab : a ≠ b) : ∀ k, k ≤ 1477 → ∀ s1 : Sn, (∀ q, q < k → s1.1 (41, b, 0) q = s.1 (41, a, 0) q) → FQ (fun r => r = (41, b, 0)) s s1 → Wp d MX8_copyAll 2 [some (vR 41 a 0), some (vR 41 b 0), some (vI (nI k))] [] (hN s1) (Pn fun t => (∀ q, q < 1477 → t.1 (41, b, 0) q = s.1 (41, a, 0) q) ∧ FQ (fun r => r = (41, b, 0)) s t) := by
  refine ind_up (fun k hk ih => ?_)
  intro s1 hq hF
  refine wp_iload_n dX8_copyAll_2 rfl rfl ?_
  refine wp_sipush (v := 1477) dX8_copyAll_3 (by decide) rfl ?_
  refine wp_icmp_ge (t := 21) dX8_copyAll_6 rfl rfl (fun h6 => ?_) (fun h6 => ?_)
  · refine wp_ret dX8_copyAll_21 rfl ?_
    have hk2 : k = 1477 := by have := (nI_leI (a := 1477) (by omega) (by omega)).mp h6; omega
    exact ⟨_, rfl, rfl, hk2 ▸ hq, hF⟩
  · have hl : k < 1477 := by have := mt (nI_leI (a := 1477) (by omega) (by omega)).mpr h6; omega
    refine wp_aload_n dX8_copyAll_9 rfl rfl ?_
    refine wp_iload_n dX8_copyAll_10 rfl rfl ?_
    refine wp_aload_n dX8_copyAll_11 rfl rfl ?_
    refine wp_iload_n dX8_copyAll_12 rfl rfl ?_
    refine wn_iald dX8_copyAll_13 (ha _) rfl (nIx rfl (by omega)) (show k < mln.getD a 0 by omega) rfl ?_
    rw [hF.1 (41, a, 0) (fun z => hab (congrArg (fun r : Rf => r.2.1) z))]
    refine wn_iast dX8_copyAll_14 (hb _) rfl (nIx rfl (by omega)) (show k < mln.getD b 0 by omega) rfl ?_
    refine wp_iinc (l' := [_, _, some _]) (v := 1) dX8_copyAll_15 rfl (by decide) rfl rfl ?_
    refine wp_goto (t := 2) dX8_copyAll_18 rfl ?_
    have hX : (fun r : Rf => r = (41, b, 0)) (41, b, 0) := rfl
    rw [nI_1]
    refine ih hl _ (fun q hq2 => ?_) (hF.pt hX)
    rw [sI_row]
    by_cases e : q = k
    · rw [e, upd_eq]
    · rw [upd_ne e]; exact hq q (by omega)
theorem c8_copyAll {a b : Nat} (ha : ∀ s : Sn, okr (hN s) (41, a, 0) = true) (hb : ∀ s : Sn, okr (hN s) (41, b, 0) = true) (la : mln.getD a 0 = 1477) (lb : mln.getD b 0 = 1477) (hab : a ≠ b) : Ca d MX8_copyAll [vR 41 a 0, vR 41 b 0] (hN s) (Pn fun t => (∀ q, q < 1477 → t.1 (41, b, 0) q = s.1 (41, a, 0) q) ∧ FQ (fun r => r = (41, b, 0)) s t) := by
  change Wp _ _ 0 [some _, some _, none] [] _ _
  refine wp_iconst (v := 0) dX8_copyAll_0 (by decide) rfl ?_
  refine wp_istore_n (l' := [_, _, some _]) dX8_copyAll_1 rfl rfl ?_
  exact l8_cpa ha hb la lb hab 0 (Nat.zero_le _) s (fun q hq => absurd hq (Nat.not_lt_zero q)) FQ.rf
end
