/-! THE PURE PART, 80: what is read fits -/
section
def lim (kk : Nat) : Int32 := if kk = 0 then 10003 else 10002
theorem lim_le {kk : Nat} : lim kk ≤ 10003 := by
  unfold lim
  split <;> decide
theorem lim_lo {kk : Nat} : (10000 : Int32) ≤ lim kk := by
  unfold lim
  split <;> decide
theorem nmO_l {kk : Nat} (hk : kk < 3) {x : Int32} (h : ¬ nmO (nI kk) x < 0) : 0 ≤ 10000 + nmO (nI kk) x ∧ 10000 + nmO (nI kk) x < lim kk := by
  rcases (by omega : kk = 0 ∨ kk = 1 ∨ kk = 2) with e | e | e <;> subst e
  · have hd : nmO (nI 0) x = if x = 102 then 0 else if x = 109 then 1 else if x = 114 then 2 else -1 := rfl
    rw [hd] at h ⊢
    by_cases h0 : x = 102
    · rw [if_pos h0]; decide
    · rw [if_neg h0] at h ⊢
      by_cases h1 : x = 109
      · rw [if_pos h1]; decide
      · rw [if_neg h1] at h ⊢
        by_cases h2 : x = 114
        · rw [if_pos h2]; decide
        · rw [if_neg h2] at h; exact absurd (by decide) h
  · have hd : nmO (nI 1) x = if x = 115 then 0 else if x = 119 then 1 else -1 := rfl
    rw [hd] at h ⊢
    by_cases h0 : x = 115
    · rw [if_pos h0]; decide
    · rw [if_neg h0] at h ⊢
      by_cases h1 : x = 119
      · rw [if_pos h1]; decide
      · rw [if_neg h1] at h; exact absurd (by decide) h
  · have hd : nmO (nI 2) x = if x = 108 then 0 else if x = 109 then 1 else -1 := rfl
    rw [hd] at h ⊢
    by_cases h0 : x = 108
    · rw [if_pos h0]; decide
    · rw [if_neg h0] at h ⊢
      by_cases h1 : x = 109
      · rw [if_pos h1]; decide
      · rw [if_neg h1] at h; exact absurd (by decide) h
theorem gT_2 {tp : Fl} {n f : Nat} {en : Int32} (hf : f < n) (h : gT tp n f en = 2) : ¬ isL tp n f ∧ isF tp n f := by
  unfold gT at h
  rw [if_neg (show ¬ f = n by omega)] at h
  by_cases hL : isL tp n f
  · rw [if_pos hL] at h
    split at h <;> exact absurd h (by decide)
  · rw [if_neg hL] at h
    by_cases hF : isF tp n f
    · exact ⟨hL, hF⟩
    · rw [if_neg hF] at h; exact absurd h (by decide)
theorem ptC_l {tp : Fl} {n f kk : Nat} {en : Int32} (hk : kk < 3) (hf : f < n) (hq : ptQ (nI kk) (gT tp n f en) (gV tp n f 0) (gN tp n f - f)) : 0 ≤ ptC (nI kk) (gT tp n f en) (gV tp n f 0) ∧ ptC (nI kk) (gT tp n f en) (gV tp n f 0) < lim kk := by
  by_cases h2 : gT tp n f en = 2
  · obtain ⟨hL, hF⟩ := gT_2 hf h2
    have hne : ¬ f = n := by omega
    have hgN := gN_F hne hL hF
    have hv : gV tp n f 0 = num tp f (min 4 (gN tp n f - f)) := by unfold gV; rw [if_neg hne, if_neg hL, if_pos hF]
    obtain ⟨m, hm, em⟩ := num_b (tp := tp) (f := f) (min 4 (gN tp n f - f)) (by omega) (fun k hk => (of_decide_eq_true (run_in (p := pF tp n) (n - f) f (f + k) (by omega) (by rw [← hgN]; omega)) : isF tp n (f + k)).2)
    have h4 : 10 ^ (min 4 (gN tp n f - f)) ≤ 10000 := Nat.pow_le_pow_right (n := 10) (by decide) (show min 4 (gN tp n f - f) ≤ 4 by omega)
    rw [show ptC (nI kk) (gT tp n f en) (gV tp n f 0) = gV tp n f 0 from if_pos h2, hv, em]
    exact ⟨nI_pos' (by omega), Int32.lt_of_lt_of_le ((nI_ltI (b := 10000) (by omega) (by decide)).mpr (by omega)) lim_lo⟩
  · rw [show ptC (nI kk) (gT tp n f en) (gV tp n f 0) = 10000 + nmO (nI kk) (gV tp n f 0) from if_neg h2]
    exact nmO_l hk (hq.resolve_left h2).2.2
theorem sgn_m {T v : Int32} (h : ¬ sgn T v = 0) : sgn T v ∈ sgs := by
  by_cases e : T = 3
  · subst e
    unfold sgn at h ⊢
    rw [if_pos rfl] at h ⊢
    by_cases e0 : v = 38
    · rw [if_pos e0]; decide
    by_cases e1 : v = 42
    · rw [if_neg e0, if_pos e1]; decide
    by_cases e2 : v = 43
    · rw [if_neg e0, if_neg e1, if_pos e2]; decide
    by_cases e3 : v = 45
    · rw [if_neg e0, if_neg e1, if_neg e2, if_pos e3]; decide
    by_cases e4 : v = 47
    · rw [if_neg e0, if_neg e1, if_neg e2, if_neg e3, if_pos e4]; decide
    by_cases e5 : v = 60
    · rw [if_neg e0, if_neg e1, if_neg e2, if_neg e3, if_neg e4, if_pos e5]; decide
    by_cases e6 : v = 61
    · rw [if_neg e0, if_neg e1, if_neg e2, if_neg e3, if_neg e4, if_neg e5, if_pos e6]; decide
    by_cases e7 : v = 62
    · rw [if_neg e0, if_neg e1, if_neg e2, if_neg e3, if_neg e4, if_neg e5, if_neg e6, if_pos e7]; decide
    by_cases e8 : v = 124
    · rw [if_neg e0, if_neg e1, if_neg e2, if_neg e3, if_neg e4, if_neg e5, if_neg e6, if_neg e7, if_pos e8]; decide
    · rw [if_neg e0, if_neg e1, if_neg e2, if_neg e3, if_neg e4, if_neg e5, if_neg e6, if_neg e7, if_neg e8] at h; exact absurd rfl h
  · exact absurd (sgn_n e) h
theorem pst_V {L : Int32} {key T v : Int32} {l f : Nat} {z z' : PZ} (h : DV L z) (hI : IV f z) (hf : f < 96) (hx : ptQ key T v l → 0 ≤ ptC key T v ∧ ptC key T v < L) (hp : pst key T v l z = some z') : DV L z' := by
  have hI1 := hI.1
  by_cases hw : zwt z = true
  · by_cases hA : T = 3 ∧ v = 33 ∧ nts (zwf z) (zh z) < 8
    · rw [pst_A hw hA] at hp
      obtain rfl := Option.some.inj hp
      exact h.ps hw (Or.inl rfl)
    · by_cases hB : T = 3 ∧ v = 40 ∧ zp z < 8
      · rw [pst_B hw hA hB] at hp
        obtain rfl := Option.some.inj hp
        exact h.ps hw (Or.inr rfl)
      · by_cases hC : ptQ key T v l
        · rw [pst_C hw hA hB hC] at hp
          obtain rfl := Option.some.inj hp
          exact h.pt hw (by omega) (hx hC)
        · rw [pst_D hw hA hB hC] at hp
          exact absurd hp (by intro q; cases q)
  · have hw0 : zwt z = false := Bool.eq_false_iff.mpr hw
    by_cases hE : T = 3 ∧ v = 41 ∧ 0 < zp z
    · rw [pst_E hw hE] at hp
      obtain rfl := Option.some.inj hp
      exact h.cl hI hw0 hE.2.2
    · by_cases hF : sgn T v = 0 ∨ (rnk (sgn T v) = 3 ∧ zte z (zp z) = true)
      · rw [pst_F hw hE hF] at hp
        exact absurd hp (by intro q; cases q)
      · rw [pst_G hw hE hF] at hp
        obtain rfl := Option.some.inj hp
        exact h.sg hw0 (sgn_m (fun q => hF (Or.inl q))) (sgn_9 (fun q => hF (Or.inl q)))
theorem plp_V {kk : Nat} (hk : kk < 3) {tp : Fl} {n : Nat} (hn : n ≤ 96) : ∀ (m f : Nat) (en : Int32) (z : PZ), f ≤ n → IV f z → DV (lim kk) z → (plp (nI kk) tp n m f en z).1 = true → VC (lim kk) (zcf (plp (nI kk) tp n m f en z).2.2) (zc (plp (nI kk) tp n m f en z).2.2) ∧ dpt (zcf (plp (nI kk) tp n m f en z).2.2) (zc (plp (nI kk) tp n m f en z).2.2) = 1
  | 0, f, en, z, hf, hI, h, ht => absurd ht (by show ¬ false = true; decide)
  | m + 1, f, en, z, hf, hI, h, ht => by
    by_cases hc : zwt z = false ∧ gT tp n f en = 0
    · rw [plp_e hc] at ht ⊢
      exact h.e hI hc.1 (of_decide_eq_true ht)
    · cases hp : pst (nI kk) (gT tp n f en) (gV tp n f 0) (gN tp n f - f) z with
      | none =>
        rw [plp_n hc hp] at ht
        exact absurd ht (by show ¬ false = true; decide)
      | some z' =>
        have hfn : f < n := Nat.lt_of_le_of_ne hf (fun q => by
          subst q
          rw [gT_n] at hp hc
          by_cases hw : zwt z = true
          · rw [pst_0 hw] at hp; cases hp
          · exact hc ⟨Bool.eq_false_iff.mpr hw, rfl⟩)
        have hgn := gN_le (tp := tp) hf
        have hgf := gF_le (tp := tp) (n := n) (k := gN tp n f) hgn.2.1
        rw [plp_s hc hp] at ht ⊢
        exact plp_V hk hn m _ _ _ hgf.2 ((pst_I hI hp).le (by have := hgn.2.2 hfn; omega)) (pst_V h hI (by omega) (fun q => ptC_l hk hfn q) hp) ht
theorem z0_D {L : Int32} {cf wf : Fl} {te : Nat → Bool} : DV L (z0 cf wf te) := ⟨fun k hk => absurd hk (by show ¬ k < 0; omega), fun k hk => absurd hk (by show ¬ k < 0; omega), rfl⟩
/-- a text that is one fits -/
theorem txR_V {tp : Fl} {n : Nat} (hn : n ≤ 96) {cf wf : Fl} {te : Nat → Bool} (h : (txR tp n cf wf te).1 = true) : (txR tp n cf wf te).2.2.1 < 3 ∧ zc (txR tp n cf wf te).2.2.2 ≤ 96 ∧ wfd (cdl (zcf (txR tp n cf wf te).2.2.2) (zc (txR tp n cf wf te).2.2.2)) 0 = true ∧ VC (lim (txR tp n cf wf te).2.2.1) (zcf (txR tp n cf wf te).2.2.2) (zc (txR tp n cf wf te).2.2.2) := by
  have hr := gF_le (tp := tp) (n := n) (k := 0) (Nat.zero_le _)
  have hgn := gN_le (tp := tp) hr.2
  have hgf := gF_le (tp := tp) (n := n) (k := gN tp n (gF tp n 0)) hgn.2.1
  unfold txR at h ⊢
  by_cases h1 : gT tp n (gF tp n 0) (-1) = 1
  · rw [if_pos h1] at h ⊢
    by_cases he : kyE tp (gF tp n 0) (gN tp n (gF tp n 0)) < 3
    · rw [if_pos he] at h ⊢
      have hV := plp_V he hn (n + 1) (gF tp n (gN tp n (gF tp n 0))) (gE tp n (gF tp n 0) (-1)) (z0 cf wf te) hgf.2 z0_I z0_D h
      have hc := plp_c (key := nI (kyE tp (gF tp n 0) (gN tp n (gF tp n 0)))) (tp := tp) (n := n) (n + 1) _ (gE tp n (gF tp n 0) (-1)) _ hgf.2 (z0_I (cf := cf) (wf := wf) (te := te))
      exact ⟨he, Nat.le_trans hc (Nat.le_trans (by omega) hn), wfd_of lim_le hV.1 hV.2, hV.1⟩
    · rw [if_neg he] at h; exact absurd h (by show ¬ false = true; decide)
  · rw [if_neg h1] at h; exact absurd h (by show ¬ false = true; decide)
end
