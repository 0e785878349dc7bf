/-! THE PURE PART, 31: what taking over makes of a row; logs and letters come -/
section
variable {d i j : Nat}
theorem rcL_b : ∀ k, k < 9 → 6 ≤ rcL.getD k 0 ∧ rcL.getD k 0 ≤ 15 := by decide
theorem tk_RC {s t : Sn} {f : Fl} (h : RC s j f) (q11 : ∀ q, 6 ≤ q → q ≤ 15 → t.1 (11, i, 0) q = s.1 (11, j, 0) q) (q14 : ∀ q, q < 12 → t.1 (14, i, 0) q = s.1 (14, j, 0) q) (q15 : ∀ q, q < 12 → t.1 (15, i, 0) q = s.1 (15, j, 0) q) (q17 : ∀ q, q < 12 → t.1 (17, i, 0) q = s.1 (17, j, 0) q) (q12 : ∀ g, g < 12 → ∀ w, w < 5 → t.1 (12, i, g) w = s.1 (12, j, g) w) : RC t i f := by
  intro k hk hv
  have hb := h k hk hv
  unfold rc at hb ⊢
  by_cases h9 : k < 9
  · rw [if_pos h9] at hb ⊢
    exact (q11 _ (rcL_b k h9).1 (rcL_b k h9).2).trans hb
  · rw [if_neg h9] at hb ⊢
    by_cases h21 : k < 21
    · rw [if_pos h21] at hb ⊢
      exact (q17 _ (by omega)).trans hb
    · rw [if_neg h21] at hb ⊢
      by_cases h33 : k < 33
      · rw [if_pos h33] at hb ⊢
        exact (q14 _ (by omega)).trans hb
      · rw [if_neg h33] at hb ⊢
        by_cases h45 : k < 45
        · rw [if_pos h45] at hb ⊢
          exact (q15 _ (by omega)).trans hb
        · rw [if_neg h45] at hb ⊢
          exact (q12 _ (by omega) _ (by omega)).trans hb
theorem XT_law {r : Rf} (h : r.1 = 34 ∨ r.1 = 35) : ¬ XT i r := by
  intro z
  rcases z with ⟨_, z | z | z | z | z⟩ <;> rcases h with h | h <;> exact absurd (z.symm.trans h) (by decide)
theorem tk_Lw {s t : Sn} {f : Fl} {c8 : Nat} (h : LwR s j f c8) (hc : c8 ≤ 14) (hX : ∀ r, ¬ XT i r → t.1 r = s.1 r) (h2 : t.2 = (tkW s i j 14).2) : LwR t i f c8 := by
  intro u hu
  obtain ⟨n, h1, h3, h4⟩ := h u hu
  have e1 : t.2.1 i u = s.2.1 j u := by rw [h2]; exact if_pos ⟨rfl, by omega⟩
  have e2 : t.2.2 = s.2.2 := by rw [h2]; rfl
  exact ⟨n, e1.trans h1, by rw [e2]; exact h3, h4.cg (hX _ (XT_law (Or.inl rfl))) (hX _ (XT_law (Or.inr rfl))) (by rw [e2]) (fun _ _ => rfl)⟩
theorem cmf_cn {f : Fl} {c : Nat} {k l m : Int32} (hc : c < 12) : cn (cmf f c k l m) = c + 1 := by
  unfold cn cmf
  rw [upd_ne (by omega), upd_ne (by omega), upd_ne (by omega), upd_ne (by omega), upd_ne (by omega), upd_eq, nI_clamp (by omega)]
theorem cmf_oth {f : Fl} {c q : Nat} {k l m : Int32} (h1 : q ≠ 1) (h : ¬ (45 + 5 * c ≤ q ∧ q < 45 + 5 * c + 5)) : cmf f c k l m q = f q := by
  unfold cmf
  rw [upd_ne (by omega), upd_ne (by omega), upd_ne (by omega), upd_ne (by omega), upd_ne (by omega), upd_ne h1]
theorem cmf_mny {f : Fl} {c : Nat} {k l m : Int32} (hc : c < 12) (h1 : f 1 = nI c) : mny (cmf f c k l m) 12 = mny f 12 := by
  have hcn : cn f = c := by unfold cn; rw [h1, nI_clamp (by omega)]
  unfold mny
  rw [cmf_cn hc, hcn]
  show ctr _ c + _ = _
  have e3 : cmf f c k l m (45 + 5 * c + 3) = 0 := by unfold cmf; rw [upd_ne (by omega), upd_eq]
  rw [if_neg (show ¬ decide (cmf f c k l m (45 + 5 * c + 3) = 12) = true by rw [e3]; decide), Nat.add_zero]
  exact ctr_cong (fun g hg => by rw [cmf_oth (by omega) (by omega)])
/-- the cells of a log that comes -/
def cmS (s : Sn) (i c : Nat) (k l m : Int32) : Sn := sI (sI (sI (sI (sI (sI s (12, i, c) 0 k) (12, i, c) 1 l) (12, i, c) 2 m) (12, i, c) 3 0) (12, i, c) 4 0) (11, i, 0) 6 (nI (c + 1))
theorem cmS_RC {s : Sn} {f : Fl} {c : Nat} {k l m : Int32} (hc : c < 12) (hR : RC s i f) (h1 : f 1 = nI c) : RC (cmS s i c k l m) i (cmf f c k l m) := by
  have hcn : cn f = c := by unfold cn; rw [h1, nI_clamp (by omega)]
  intro q hq hv
  rw [cmf_cn hc] at hv
  have hne : ((12, i, c) : Rf) ≠ (11, i, 0) := by intro z; exact absurd (congrArg Prod.fst z) (by show ¬ 12 = 11; decide)
  by_cases e1 : q = 1
  · subst e1
    show (cmS s i c k l m).1 (11, i, 0) 6 = _
    unfold cmS cmf
    rw [sI_eq, upd_ne (by omega), upd_ne (by omega), upd_ne (by omega), upd_ne (by omega), upd_ne (by omega), upd_eq]
  · by_cases e5 : 45 + 5 * c ≤ q ∧ q < 45 + 5 * c + 5
    · obtain ⟨w, hw⟩ : ∃ w, w = q - (45 + 5 * c) := ⟨_, rfl⟩
      have hw5 : w < 5 := by omega
      have hqw : q = 45 + 5 * c + w := by omega
      subst hqw
      rw [rc_lg hw5]
      show (cmS s i c k l m).1 (12, i, c) w = _
      unfold cmS cmf
      rw [sI_nr hne, sI_row, sI_row, sI_row, sI_row, sI_row]
      unfold upd
      have : w = 0 ∨ w = 1 ∨ w = 2 ∨ w = 3 ∨ w = 4 := by omega
      rcases this with h | h | h | h | h
      · subst h; rw [if_neg (by decide), if_neg (by decide), if_neg (by decide), if_neg (by decide), if_pos rfl, if_neg (by omega), if_neg (by omega), if_neg (by omega), if_neg (by omega), if_pos rfl]
      · subst h; rw [if_neg (by decide), if_neg (by decide), if_neg (by decide), if_pos rfl, if_neg (by omega), if_neg (by omega), if_neg (by omega), if_pos rfl]
      · subst h; rw [if_neg (by decide), if_neg (by decide), if_pos rfl, if_neg (by omega), if_neg (by omega), if_pos rfl]
      · subst h; rw [if_neg (by decide), if_pos rfl, if_neg (by omega), if_pos rfl]
      · subst h; rw [if_pos rfl, if_pos rfl]
    · rw [cmf_oth e1 e5]
      have hk : ∀ w, w < 5 → ((rc i q).1, (rc i q).2) ≠ ((12, i, c), w) := fun w hw z => by
        have z2 : rc i q = rc i (45 + 5 * c + w) := by rw [rc_lg hw]; exact z
        have := rc_inj z2
        omega
      have h6 : ((rc i q).1, (rc i q).2) ≠ ((11, i, 0), 6) := fun z => e1 (rc_inj (i := i) (k' := 1) z)
      unfold cmS
      rw [sI_n2 h6, sI_n2 (hk 4 (by decide)), sI_n2 (hk 3 (by decide)), sI_n2 (hk 2 (by decide)), sI_n2 (hk 1 (by decide)), sI_n2 (hk 0 (by decide))]
      refine hR q hq ?_
      rw [hcn]
      rcases hv with hv | hv
      · exact Or.inl hv
      · by_cases h45 : q < 45
        · exact Or.inl h45
        · exact Or.inr (by omega)
theorem cmS_RV {s : Sn} {f : Fl} {c : Nat} {k l m : Int32} (hc : c < 12) (hV : RV s i f c) : RV (cmS s i c k l m) i (cmf f c k l m) (c + 1) := by
  obtain ⟨hR, h13, h1, _⟩ := hV
  have hne : ((11, i, 0) : Rf) ≠ (12, i, c) := by intro z; exact absurd (congrArg Prod.fst z) (by show ¬ 11 = 12; decide)
  refine ⟨cmS_RC hc hR h1, ?_, ?_, by omega⟩
  · rw [cmf_mny hc h1]
    unfold cmS
    rw [sI_nk (by decide), sI_nr hne, sI_nr hne, sI_nr hne, sI_nr hne, sI_nr hne]
    exact h13
  · unfold cmf
    rw [upd_ne (by omega), upd_ne (by omega), upd_ne (by omega), upd_ne (by omega), upd_ne (by omega), upd_eq]
theorem cmS_FQ {s : Sn} {c : Nat} {k l m : Int32} : FQ (XR i) s (cmS s i c k l m) := by
  have x1 : XR i (12, i, c) := Or.inr ⟨rfl, Or.inr (Or.inl rfl)⟩
  have x2 : XR i (11, i, 0) := Or.inr ⟨rfl, Or.inl rfl⟩
  exact (((((FQ.rf.pt x1).pt x1).pt x1).pt x1).pt x1).pt x2
end
