/-! THE PURE PART, 65: what holds of a text as it is read -/
section
def opn (wf : Fl) (h : Nat) : Nat := ctr (fun k => decide (wf k = -11)) h
theorem rnk_0 (x : Int32) : 0 ≤ rnk x := by
  unfold rnk
  split
  · decide
  · split
    · decide
    · split
      · decide
      · split
        · decide
        · split <;> decide
theorem rnk_6 {x : Int32} (h : ¬ 6 ≤ rnk x) : ¬ x = -10 := fun e => h (by rw [e]; decide)
theorem opn_u {wf : Fl} {h : Nat} {x : Int32} : opn (upd wf h x) (h + 1) = opn wf h + (if x = -11 then 1 else 0) := by
  show ctr _ h + _ = _
  rw [ctr_cong (q := fun k => decide (wf k = -11)) (fun k hk => by rw [upd_ne (by omega)])]
  simp only [upd_eq, decide_eq_true_eq]
  rfl
theorem nts_u {wf : Fl} {h : Nat} {x : Int32} : nts (upd wf h x) (h + 1) = nts wf h + (if x = -10 then 1 else 0) := by
  show ctr _ h + _ = _
  rw [ctr_cong (q := fun k => decide (wf k = -10)) (fun k hk => by rw [upd_ne (by omega)])]
  simp only [upd_eq, decide_eq_true_eq]
  rfl
theorem opn_s {wf : Fl} {h : Nat} : opn wf (h + 1) = opn wf h + (if wf h = -11 then 1 else 0) := by
  show ctr _ h + _ = _
  simp only [decide_eq_true_eq]
  rfl
theorem nts_s {wf : Fl} {h : Nat} : nts wf (h + 1) = nts wf h + (if wf h = -10 then 1 else 0) := by
  show ctr _ h + _ = _
  simp only [decide_eq_true_eq]
  rfl
theorem stl_o {wf : Fl} {ls : Int32} : ∀ (h : Nat) (cf : Fl) (c : Nat), opn wf (stl wf ls h cf c).2.2 = opn wf h
  | 0, _, _ => rfl
  | h + 1, cf, c => by
    by_cases e : ¬ wf h = -11 ∧ ls ≤ rnk (wf h)
    · rw [stl_y e, stl_o h, opn_s, if_neg e.1]; rfl
    · rw [stl_n e]
/-- what is on top at the end -/
theorem stl_t {wf : Fl} {ls : Int32} : ∀ (h : Nat) (cf : Fl) (c : Nat), (stl wf ls h cf c).2.2 = 0 ∨ ∃ k, (stl wf ls h cf c).2.2 = k + 1 ∧ k < h ∧ (wf k = -11 ∨ ¬ ls ≤ rnk (wf k))
  | 0, _, _ => Or.inl rfl
  | h + 1, cf, c => by
    by_cases e : ¬ wf h = -11 ∧ ls ≤ rnk (wf h)
    · rw [stl_y e]
      rcases stl_t (wf := wf) (ls := ls) h (upd cf c (wf h)) (c + 1) with q | ⟨k, q1, q2, q3⟩
      · exact Or.inl q
      · exact Or.inr ⟨k, q1, by omega, q3⟩
    · rw [stl_n e]
      refine Or.inr ⟨h, rfl, by omega, ?_⟩
      by_cases e2 : wf h = -11
      · exact Or.inl e2
      · exact Or.inr (fun z => e ⟨e2, z⟩)
/-- above a not is a not, or a bracket -/
def NW (wf : Fl) (h : Nat) : Prop := ∀ k, k + 1 < h → wf k = -10 → wf (k + 1) = -10 ∨ wf (k + 1) = -11
def TN (wf : Fl) (h : Nat) : Prop := ∀ k, h = k + 1 → ¬ wf k = -10
theorem NW.le {wf : Fl} {h h' : Nat} (hw : NW wf h) (hl : h' ≤ h) : NW wf h' := fun k hk e => hw k (by omega) e
theorem stl_nt {wf : Fl} {ls : Int32} : ∀ (h : Nat) (cf : Fl) (c : Nat), NW wf h → TN wf h → nts wf (stl wf ls h cf c).2.2 = nts wf h ∧ TN wf (stl wf ls h cf c).2.2
  | 0, _, _, _, ht => ⟨rfl, ht⟩
  | h + 1, cf, c, hw, ht => by
    by_cases e : ¬ wf h = -11 ∧ ls ≤ rnk (wf h)
    · have h0 := ht h rfl
      have ht2 : TN wf h := fun k hk z => by
        subst hk
        rcases hw k (by omega) z with q | q
        · exact h0 q
        · exact e.1 q
      have := stl_nt (wf := wf) (ls := ls) h (upd cf c (wf h)) (c + 1) (hw.le (by omega)) ht2
      rw [stl_y e, this.1, nts_s, if_neg h0]
      exact ⟨rfl, this.2⟩
    · rw [stl_n e]; exact ⟨rfl, ht⟩
theorem stl_6 {wf : Fl} {h : Nat} {cf : Fl} {c : Nat} : TN wf (stl wf 6 h cf c).2.2 := fun k hk z => by
  rcases stl_t (wf := wf) (ls := 6) h cf c with q | ⟨k2, q1, q2, q3⟩
  · omega
  · have e : k = k2 := by omega
    subst e
    rcases q3 with q | q
    · rw [q] at z; exact absurd z (by decide)
    · exact rnk_6 q z
theorem NW.up {wf : Fl} {h : Nat} {x : Int32} (hw : NW wf h) (hx : (x = -10 ∨ x = -11) ∨ TN wf h) : NW (upd wf h x) (h + 1) := fun k hk e => by
  rw [upd_ne (by omega)] at e
  by_cases e2 : k + 1 = h
  · rw [e2, upd_eq]
    rcases hx with q | q
    · exact q
    · exact absurd e (q k e2.symm)
  · rw [upd_ne e2]
    exact hw k (by omega) e
/-- all of it, at a place f -/
def IV (f : Nat) (z : PZ) : Prop := (zc z + zh z ≤ f) ∧ opn (zwf z) (zh z) = zp z ∧ zp z ≤ 8 ∧ NW (zwf z) (zh z) ∧ (zwt z = false → TN (zwf z) (zh z))
theorem IV.le {f f' : Nat} {z : PZ} (h : IV f z) (hf : f ≤ f') : IV f' z := ⟨Nat.le_trans h.1 hf, h.2⟩
theorem IV.nt {f : Nat} {z : PZ} (h : IV f z) (hw : zwt z = true) : IV (f + 1) (psh z (-10)) := by
  obtain ⟨h1, h2, h3, h4, h5⟩ := h
  refine ⟨?_, ?_, h3, h4.up (Or.inl (Or.inl rfl)), fun q => absurd (hw.symm.trans q) (by decide)⟩
  · show zc z + (zh z + 1) ≤ f + 1; omega
  · show opn (upd (zwf z) (zh z) (-10)) (zh z + 1) = zp z
    rw [opn_u, if_neg (by decide)]; exact h2
theorem IV.op {f : Nat} {z : PZ} (h : IV f z) (hw : zwt z = true) (hp : zp z < 8) : IV (f + 1) (opZ z) := by
  obtain ⟨h1, h2, h3, h4, h5⟩ := h
  refine ⟨?_, ?_, ?_, h4.up (Or.inl (Or.inr rfl)), fun q => absurd (hw.symm.trans q) (by decide)⟩
  · show zc z + (zh z + 1) ≤ f + 1; omega
  · show opn (upd (zwf z) (zh z) (-11)) (zh z + 1) = zp z + 1
    rw [opn_u, if_pos rfl, h2]
  · show zp z + 1 ≤ 8; omega
theorem IV.pt {f : Nat} {z : PZ} {x : Int32} (h : IV f z) : IV (f + 1) (ptZ z x) := by
  obtain ⟨h1, h2, h3, h4, h5⟩ := h
  have hc := stl_c (wf := zwf z) (ls := 6) (zh z) (upd (zcf z) (zc z) x) (zc z + 1)
  refine ⟨?_, ?_, h3, h4.le hc.2.1, fun _ => stl_6⟩
  · show (stl (zwf z) 6 (zh z) (upd (zcf z) (zc z) x) (zc z + 1)).2.1 + (stl (zwf z) 6 (zh z) (upd (zcf z) (zc z) x) (zc z + 1)).2.2 ≤ f + 1
    omega
  · exact (stl_o _ _ _).trans h2
/-- the bracket is there -/
theorem cl_h {f : Nat} {z : PZ} (h : IV f z) (hp : 0 < zp z) : ∃ k, zh (sz z 0) = k + 1 ∧ opn (zwf z) k = zp z - 1 ∧ k < zh z := by
  obtain ⟨h1, h2, h3, h4, h5⟩ := h
  have ho := (stl_o (wf := zwf z) (ls := 0) (zh z) (zcf z) (zc z)).trans h2
  rcases stl_t (wf := zwf z) (ls := 0) (zh z) (zcf z) (zc z) with q | ⟨k, q1, q2, q3⟩
  · rw [q] at ho
    exact absurd ho (by show ¬ 0 = zp z; omega)
  · refine ⟨k, q1, ?_, q2⟩
    rw [q1, opn_s] at ho
    rcases q3 with q | q
    · rw [if_pos q] at ho; omega
    · exact absurd (rnk_0 _) q
theorem IV.cl {f : Nat} {z : PZ} (h : IV f z) (hw : zwt z = false) (hp : 0 < zp z) : IV f (clZ z) := by
  obtain ⟨k, e1, e2, e3⟩ := cl_h h hp
  obtain ⟨h1, h2, h3, h4, h5⟩ := h
  have ek : zh (sz z 0) - 1 = k := by omega
  have hc0 := stl_c (wf := zwf z) (ls := 0) (zh z) (zcf z) (zc z)
  have e1' : (stl (zwf z) 0 (zh z) (zcf z) (zc z)).2.2 = k + 1 := e1
  have hc := stl_c (wf := zwf z) (ls := 6) k (zcf (sz z 0)) (zc (sz z 0))
  have hcz : zc (sz z 0) = (stl (zwf z) 0 (zh z) (zcf z) (zc z)).2.1 := rfl
  unfold clZ
  rw [ek]
  refine ⟨?_, ?_, ?_, (h4.le (show k ≤ zh z by omega)).le hc.2.1, fun _ => stl_6⟩
  · show (stl (zwf z) 6 k (zcf (sz z 0)) (zc (sz z 0))).2.1 + (stl (zwf z) 6 k (zcf (sz z 0)) (zc (sz z 0))).2.2 ≤ f
    omega
  · exact (stl_o (wf := zwf z) k _ _).trans e2
  · show zp z - 1 ≤ 8; omega
theorem sgn_9 {T v : Int32} (h : ¬ sgn T v = 0) : ¬ sgn T v = -10 ∧ ¬ sgn T v = -11 := by
  unfold sgn at *
  by_cases e : T = 3
  · rw [if_pos e] at h ⊢
    by_cases e0 : v = 38
    · rw [if_pos e0]; exact ⟨by decide, by decide⟩
    by_cases e1 : v = 42
    · rw [if_neg e0, if_pos e1]; exact ⟨by decide, by decide⟩
    by_cases e2 : v = 43
    · rw [if_neg e0, if_neg e1, if_pos e2]; exact ⟨by decide, by decide⟩
    by_cases e3 : v = 45
    · rw [if_neg e0, if_neg e1, if_neg e2, if_pos e3]; exact ⟨by decide, by decide⟩
    by_cases e4 : v = 47
    · rw [if_neg e0, if_neg e1, if_neg e2, if_neg e3, if_pos e4]; exact ⟨by decide, by decide⟩
    by_cases e5 : v = 60
    · rw [if_neg e0, if_neg e1, if_neg e2, if_neg e3, if_neg e4, if_pos e5]; exact ⟨by decide, by decide⟩
    by_cases e6 : v = 61
    · rw [if_neg e0, if_neg e1, if_neg e2, if_neg e3, if_neg e4, if_neg e5, if_pos e6]; exact ⟨by decide, by decide⟩
    by_cases e7 : v = 62
    · rw [if_neg e0, if_neg e1, if_neg e2, if_neg e3, if_neg e4, if_neg e5, if_neg e6, if_pos e7]; exact ⟨by decide, by decide⟩
    by_cases e8 : v = 124
    · rw [if_neg e0, if_neg e1, if_neg e2, if_neg e3, if_neg e4, if_neg e5, if_neg e6, if_neg e7, if_pos e8]; exact ⟨by decide, by decide⟩
    · rw [if_neg e0, if_neg e1, if_neg e2, if_neg e3, if_neg e4, if_neg e5, if_neg e6, if_neg e7, if_neg e8] at h; exact absurd rfl h
  · rw [if_neg e] at h; exact absurd rfl h
theorem IV.sg {f : Nat} {z : PZ} {g : Int32} (h : IV f z) (hw : zwt z = false) (hg : ¬ g = -10 ∧ ¬ g = -11) : IV (f + 1) (sgZ z g) ∧ nts (zwf (sgZ z g)) (zh (sgZ z g)) = nts (zwf z) (zh z) := by
  obtain ⟨h1, h2, h3, h4, h5⟩ := h
  have hc := stl_c (wf := zwf z) (ls := rnk g) (zh z) (zcf z) (zc z)
  have hn := stl_nt (wf := zwf z) (ls := rnk g) (zh z) (zcf z) (zc z) h4 (h5 hw)
  refine ⟨⟨?_, ?_, h3, (h4.le hc.2.1).up (Or.inr hn.2), fun q => absurd q (by show ¬ true = false; decide)⟩, ?_⟩
  · show (stl (zwf z) (rnk g) (zh z) (zcf z) (zc z)).2.1 + ((stl (zwf z) (rnk g) (zh z) (zcf z) (zc z)).2.2 + 1) ≤ f + 1
    omega
  · show opn (upd (zwf z) (stl (zwf z) (rnk g) (zh z) (zcf z) (zc z)).2.2 g) ((stl (zwf z) (rnk g) (zh z) (zcf z) (zc z)).2.2 + 1) = zp z
    rw [opn_u, if_neg hg.2, stl_o]; exact h2
  · show nts (upd (zwf z) (stl (zwf z) (rnk g) (zh z) (zcf z) (zc z)).2.2 g) ((stl (zwf z) (rnk g) (zh z) (zcf z) (zc z)).2.2 + 1) = nts (zwf z) (zh z)
    rw [nts_u, if_neg hg.1]; exact hn.1
theorem plp_n {key : Int32} {tp : Fl} {n m f : Nat} {en : Int32} {z : PZ} (h : ¬ (zwt z = false ∧ gT tp n f en = 0)) (hp : pst key (gT tp n f en) (gV tp n f 0) (gN tp n f - f) z = none) : plp key tp n (m + 1) f en z = (false, f, z) := by rw [plp, if_neg h, hp]
theorem plp_s {key : Int32} {tp : Fl} {n m f : Nat} {en : Int32} {z z' : PZ} (h : ¬ (zwt z = false ∧ gT tp n f en = 0)) (hp : pst key (gT tp n f en) (gV tp n f 0) (gN tp n f - f) z = some z') : plp key tp n (m + 1) f en z = plp key tp n m (gF tp n (gN tp n f)) (gE tp n f en) z' := by rw [plp, if_neg h, hp]
theorem plp_e {key : Int32} {tp : Fl} {n m f : Nat} {en : Int32} {z : PZ} (h : zwt z = false ∧ gT tp n f en = 0) : plp key tp n (m + 1) f en z = (decide (zp z = 0), f, sz z 0) := by rw [plp, if_pos h]
theorem pst_A {key T v : Int32} {l : Nat} {z : PZ} (hw : zwt z = true) (h : T = 3 ∧ v = 33 ∧ nts (zwf z) (zh z) < 8) : pst key T v l z = some (psh z (-10)) := by unfold pst; rw [if_pos hw, if_pos h]
theorem pst_B {key T v : Int32} {l : Nat} {z : PZ} (hw : zwt z = true) (h0 : ¬ (T = 3 ∧ v = 33 ∧ nts (zwf z) (zh z) < 8)) (h : T = 3 ∧ v = 40 ∧ zp z < 8) : pst key T v l z = some (opZ z) := by unfold pst; rw [if_pos hw, if_neg h0, if_pos h]
theorem pst_C {key T v : Int32} {l : Nat} {z : PZ} (hw : zwt z = true) (h0 : ¬ (T = 3 ∧ v = 33 ∧ nts (zwf z) (zh z) < 8)) (h1 : ¬ (T = 3 ∧ v = 40 ∧ zp z < 8)) (h : ptQ key T v l) : pst key T v l z = some (ptZ z (ptC key T v)) := by unfold pst; rw [if_pos hw, if_neg h0, if_neg h1, if_pos h]
theorem pst_D {key T v : Int32} {l : Nat} {z : PZ} (hw : zwt z = true) (h0 : ¬ (T = 3 ∧ v = 33 ∧ nts (zwf z) (zh z) < 8)) (h1 : ¬ (T = 3 ∧ v = 40 ∧ zp z < 8)) (h : ¬ ptQ key T v l) : pst key T v l z = none := by unfold pst; rw [if_pos hw, if_neg h0, if_neg h1, if_neg h]
theorem pst_E {key T v : Int32} {l : Nat} {z : PZ} (hw : ¬ zwt z = true) (h : T = 3 ∧ v = 41 ∧ 0 < zp z) : pst key T v l z = some (clZ z) := by unfold pst; rw [if_neg hw, if_pos h]
theorem pst_F {key T v : Int32} {l : Nat} {z : PZ} (hw : ¬ zwt z = true) (h0 : ¬ (T = 3 ∧ v = 41 ∧ 0 < zp z)) (h : sgn T v = 0 ∨ (rnk (sgn T v) = 3 ∧ zte z (zp z) = true)) : pst key T v l z = none := by unfold pst; rw [if_neg hw, if_neg h0, if_pos h]
theorem pst_G {key T v : Int32} {l : Nat} {z : PZ} (hw : ¬ zwt z = true) (h0 : ¬ (T = 3 ∧ v = 41 ∧ 0 < zp z)) (h : ¬ (sgn T v = 0 ∨ (rnk (sgn T v) = 3 ∧ zte z (zp z) = true))) : pst key T v l z = some (sgZ z (sgn T v)) := by unfold pst; rw [if_neg hw, if_neg h0, if_neg h]
end
