/-! THE PURE PART, 84: the class reads a law -/
section
variable {d : Nat}
theorem ky_L {tp : Fl} {n f m : Nat} (hfn : f < n) (h : kyE tp f m < 3) : isL tp n f := by
  unfold kyE at h
  by_cases h0 : kyM tp f m 0 5
  · have := h0.2 0 (by decide)
    rw [Nat.add_zero] at this
    rw [isL, this]; exact ⟨hfn, by decide, by decide⟩
  · rw [if_neg h0] at h
    by_cases h1 : kyM tp f m 5 3
    · have := h1.2 0 (by decide)
      rw [Nat.add_zero] at this
      rw [isL, this]; exact ⟨hfn, by decide, by decide⟩
    · rw [if_neg h1] at h
      by_cases h2 : kyM tp f m 8 4
      · have := h2.2 0 (by decide)
        rw [Nat.add_zero] at this
        rw [isL, this]; exact ⟨hfn, by decide, by decide⟩
      · rw [if_neg h2] at h; omega
theorem m1_n {f : Nat} (hf : f ≤ 96) : ¬ nI f = -1 := fun e => absurd (show ¬ (-1 : Int32) < 0 by rw [← e]; exact nI_pos (by omega)) (by decide)
theorem gT_L {tp : Fl} {n f : Nat} (hn : n ≤ 96) (hfn : f < n) (h : isL tp n f) : gT tp n f (-1) = 1 := by
  unfold gT
  rw [if_neg (by omega), if_pos h, if_neg (m1_n (by omega))]
theorem EN_L {tp : Fl} {n f : Nat} (hn : n ≤ 96) (hfn : f < n) (h : isL tp n f) : EN tp (gN tp n f) (gE tp n f (-1)) := by
  have hne : ¬ f = n := by omega
  have hg := gN_le (tp := tp) (n := n) (f := f) (by omega)
  have hlt := hg.2.2 hfn
  have hE : gE tp n f (-1) = nI (gN tp n f) := by unfold gE; rw [if_neg hne, if_pos (Or.inl h)]
  have hm : pL tp n (gN tp n f - 1) = true := run_in (n - f) f _ (by omega) (by rw [← gN_L hne h]; omega)
  have h1 := srt_1.mpr (of_decide_eq_true hm).2
  refine ⟨by omega, ⟨_, Nat.le_refl _, hE⟩, ?_⟩
  rw [h1, hE]
  exact ⟨fun _ => rfl, fun _ => by decide⟩
theorem c2_begin {s : Sn} {cf wf : Fl} {te : Nat → Bool} : Ca d MX2_begin [vR 20 0 0] (hN s) (Pn fun t => CR (z0 cf wf te) t ∧ t.1 (20, 0, 0) 13 = nI 0 ∧ Fr XC3 s t) := by
  change Wp _ _ 0 [some _] [] _ _
  refine wp_aload_n dX2_begin_0 rfl rfl ?_
  refine wp_iconst (v := 0) dX2_begin_1 (by decide) rfl ?_
  refine wn_putI dX2_begin_2 fRX2_29 o20 rfl rfl rfl ?_
  refine wp_aload_n dX2_begin_5 rfl rfl ?_
  refine wp_iconst (v := 0) dX2_begin_6 (by decide) rfl ?_
  refine wn_putI dX2_begin_7 fRX2_32 o20 rfl rfl rfl ?_
  refine wp_aload_n dX2_begin_10 rfl rfl ?_
  refine wp_iconst (v := 0) dX2_begin_11 (by decide) rfl ?_
  refine wn_putI dX2_begin_12 fRX2_38 o20 rfl rfl rfl ?_
  refine wp_aload_n dX2_begin_15 rfl rfl ?_
  refine wp_iconst (v := 0) dX2_begin_16 (by decide) rfl ?_
  refine wn_putI dX2_begin_17 fRX2_41 o20 rfl rfl rfl ?_
  refine wp_aload_n dX2_begin_20 rfl rfl ?_
  refine wp_iconst (v := 0) dX2_begin_21 (by decide) rfl ?_
  refine wn_putI dX2_begin_22 fRX2_44 o20 rfl rfl rfl ?_
  refine wp_aload_n dX2_begin_25 rfl rfl ?_
  refine wp_iconst (v := 0) dX2_begin_26 (by decide) rfl ?_
  refine wn_putI dX2_begin_27 fRX2_47 o20 rfl rfl rfl ?_
  refine wp_aload_n dX2_begin_30 rfl rfl ?_
  refine wp_iconst (v := 1) dX2_begin_31 (by decide) rfl ?_
  refine wn_putZ dX2_begin_32 fRX2_50 o20 rfl rfl (by decide) rfl ?_
  refine wp_aload_n dX2_begin_35 rfl rfl ?_
  refine wp_iconst (v := 0) dX2_begin_36 (by decide) rfl ?_
  refine wn_putI dX2_begin_37 fRX2_54 o20 rfl rfl rfl ?_
  refine wp_aload_n dX2_begin_40 rfl rfl ?_
  refine wp_iconst (v := 0) dX2_begin_41 (by decide) rfl ?_
  refine wn_putI dX2_begin_42 fRX2_57 o20 rfl rfl rfl ?_
  refine wp_ret dX2_begin_45 rfl ?_
  refine ⟨_, rfl, rfl, ⟨⟨?_, fun k hk => absurd hk (by show ¬ k < 0; omega), ?_, fun k hk => absurd hk (by show ¬ k < 0; omega)⟩, ?_, ?_, ?_, ?_, 0, ⟨by decide, fun k hk => ?_⟩, ?_⟩, ?_, ((((((((Fr.rf.pt (by decide)).pt (by decide)).pt (by decide)).pt (by decide)).pt (by decide)).pt (by decide)).pt (by decide)).pt (by decide)).pt (by decide)⟩
  · rfl
  · rfl
  · rfl
  · rfl
  · rfl
  · rfl
  · have hk0 : k = 0 := by have : k ≤ 0 := hk; omega
    subst hk0
    rfl
  · rfl
  · rfl
end
