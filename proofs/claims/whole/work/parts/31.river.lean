/-! THE PURE PART, 21: how a river of the class stands for a row of the reference -/
def rcL : List Nat := [15, 6, 14, 9, 11, 10, 12, 7, 8]
def rc (i k : Nat) : Rf × Nat := if k < 9 then ((11, i, 0), rcL.getD k 0) else if k < 21 then ((17, i, 0), k - 9) else if k < 33 then ((14, i, 0), k - 21) else if k < 45 then ((15, i, 0), k - 33) else ((12, i, (k - 45) / 5), (k - 45) % 5)
def fkL : List Nat := [0, 0, 0, 0, 0, 0, 1, 7, 8, 3, 5, 4, 6, 0, 2, 0]
def fk (q : Rf × Nat) : Nat := match q.1.1 with
  | 11 => fkL.getD q.2 0
  | 17 => 9 + q.2
  | 14 => 21 + q.2
  | 15 => 33 + q.2
  | _ => 45 + 5 * q.1.2.2 + q.2
theorem fk_rc9 : ∀ k, k < 9 → fk ((11, 0, 0), rcL.getD k 0) = k := by decide
theorem fk_rc (i k : Nat) : fk (rc i k) = k := by
  unfold rc
  by_cases h9 : k < 9
  · rw [if_pos h9]; exact fk_rc9 k h9
  · rw [if_neg h9]
    by_cases h21 : k < 21
    · rw [if_pos h21]; show 9 + (k - 9) = k; omega
    · rw [if_neg h21]
      by_cases h33 : k < 33
      · rw [if_pos h33]; show 21 + (k - 21) = k; omega
      · rw [if_neg h33]
        by_cases h45 : k < 45
        · rw [if_pos h45]; show 33 + (k - 33) = k; omega
        · rw [if_neg h45]; show 45 + 5 * ((k - 45) / 5) + (k - 45) % 5 = k; omega
theorem rc_inj {i k k' : Nat} (h : rc i k = rc i k') : k = k' := by
  have := congrArg fk h
  rwa [fk_rc, fk_rc] at this
theorem rc_lg {i g w : Nat} (hw : w < 5) : rc i (45 + 5 * g + w) = ((12, i, g), w) := by
  unfold rc
  rw [if_neg (by omega), if_neg (by omega), if_neg (by omega), if_neg (by omega)]
  have e1 : (45 + 5 * g + w - 45) / 5 = g := by omega
  have e2 : (45 + 5 * g + w - 45) % 5 = w := by omega
  rw [e1, e2]
theorem rc_rm {i r : Nat} (hr : r < 12) : rc i (21 + r) = ((14, i, 0), r) := by
  unfold rc
  rw [if_neg (by omega), if_neg (by omega), if_pos (by omega), show 21 + r - 21 = r by omega]
theorem rc_bm {i r : Nat} (hr : r < 12) : rc i (33 + r) = ((15, i, 0), r) := by
  unfold rc
  rw [if_neg (by omega), if_neg (by omega), if_neg (by omega), if_pos (by omega), show 33 + r - 33 = r by omega]
theorem rc_wd {i r : Nat} (hr : r < 12) : rc i (9 + r) = ((17, i, 0), r) := by
  unfold rc
  rw [if_neg (by omega), if_pos (by omega), show 9 + r - 9 = r by omega]
theorem rc_tag (i k : Nat) : (rc i k).1.2.1 = i ∧ ((rc i k).1.1 = 11 ∨ (rc i k).1.1 = 17 ∨ (rc i k).1.1 = 14 ∨ (rc i k).1.1 = 15 ∨ (rc i k).1.1 = 12) := by
  unfold rc
  split
  · exact ⟨rfl, Or.inl rfl⟩
  · split
    · exact ⟨rfl, Or.inr (Or.inl rfl)⟩
    · split
      · exact ⟨rfl, Or.inr (Or.inr (Or.inl rfl))⟩
      · split
        · exact ⟨rfl, Or.inr (Or.inr (Or.inr (Or.inl rfl)))⟩
        · exact ⟨rfl, Or.inr (Or.inr (Or.inr (Or.inr rfl)))⟩
theorem rc_13 {i k : Nat} : rc i k ≠ ((11, i, 0), 13) := by
  intro h
  have h1 := fk_rc i k
  rw [h] at h1
  have h0 : k = 0 := h1.symm
  subst h0
  have h2 : rc i 0 = ((11, i, 0), 15) := rfl
  rw [h2] at h
  exact absurd (congrArg Prod.snd h) (by show ¬ 15 = 13; decide)
theorem sI_n2 {s : Sn} {r z : Rf} {k j : Nat} {v : Int32} (h : (z, j) ≠ (r, k)) : (sI s r k v).1 z j = s.1 z j := by
  unfold sI
  dsimp only
  rw [if_neg (fun e => h (by rw [e.1, e.2]))]
def RC (s : Sn) (i : Nat) (f : Fl) : Prop := ∀ k, k < 105 → (k < 45 ∨ (k - 45) / 5 < cn f) → s.1 (rc i k).1 (rc i k).2 = f k
theorem RC.lg {s : Sn} {i : Nat} {f : Fl} {g w : Nat} (h : RC s i f) (hg : g < cn f) (hg12 : g < 12) (hw : w < 5) : s.1 (12, i, g) w = f (45 + 5 * g + w) := by
  have := h (45 + 5 * g + w) (by omega) (Or.inr (by rw [show (45 + 5 * g + w - 45) / 5 = g by omega]; exact hg))
  rwa [rc_lg hw] at this
theorem RC.sc {s : Sn} {i : Nat} {f : Fl} (h : RC s i f) (k : Nat) (hk : k < 9) : s.1 (11, i, 0) (rcL.getD k 0) = f k := by
  have := h k (by omega) (Or.inl (by omega))
  unfold rc at this
  rwa [if_pos hk] at this
theorem RC.rm {s : Sn} {i : Nat} {f : Fl} {r : Nat} (h : RC s i f) (hr : r < 12) : s.1 (14, i, 0) r = f (21 + r) := by
  have := h (21 + r) (by omega) (Or.inl (by omega))
  rwa [rc_rm hr] at this
theorem RC.bm {s : Sn} {i : Nat} {f : Fl} {r : Nat} (h : RC s i f) (hr : r < 12) : s.1 (15, i, 0) r = f (33 + r) := by
  have := h (33 + r) (by omega) (Or.inl (by omega))
  rwa [rc_bm hr] at this
theorem RC.wd {s : Sn} {i : Nat} {f : Fl} {r : Nat} (h : RC s i f) (hr : r < 12) : s.1 (17, i, 0) r = f (9 + r) := by
  have := h (9 + r) (by omega) (Or.inl (by omega))
  rwa [rc_wd hr] at this
theorem cn_upd {f : Fl} {k : Nat} {v : Int32} (h : k ≠ 1) : cn (upd f k v) = cn f := by unfold cn; rw [upd_ne (Ne.symm h)]
theorem RC.pt {s : Sn} {i : Nat} {f : Fl} {k : Nat} {v : Int32} {q : Rf × Nat} (h : RC s i f) (hq : rc i k = q) (h1 : k ≠ 1) : RC (sI s q.1 q.2 v) i (upd f k v) := by
  subst hq
  intro k' hk' hv
  rw [cn_upd h1] at hv
  by_cases e : k' = k
  · subst e; rw [sI_eq, upd_eq]
  · have hne : ((rc i k').1, (rc i k').2) ≠ ((rc i k).1, (rc i k).2) := fun z => e (rc_inj (i := i) z)
    rw [sI_n2 hne, upd_ne e]; exact h k' hk' hv
theorem RC.ot {s : Sn} {i : Nat} {f : Fl} {r : Rf} {j : Nat} {v : Int32} (h : RC s i f) (hq : ∀ k, rc i k ≠ (r, j)) : RC (sI s r j v) i f := fun k hk hv => by
  have hne : ((rc i k).1, (rc i k).2) ≠ (r, j) := hq k
  rw [sI_n2 hne]; exact h k hk hv
theorem rc_ne {i k : Nat} {r : Rf} {j : Nat} (h : ¬ (r.1 = 11 ∨ r.1 = 17 ∨ r.1 = 14 ∨ r.1 = 15 ∨ r.1 = 12) ∨ r.2.1 ≠ i) : rc i k ≠ (r, j) := by
  intro e
  have ht := rc_tag i k
  rw [e] at ht
  rcases h with h | h
  · exact h ht.2
  · exact h ht.1
theorem RC.cg {s s' : Sn} {i : Nat} {f f' : Fl} (h : RC s i f) (hs : ∀ r : Rf, r.2.1 = i → (r.1 = 11 ∨ r.1 = 17 ∨ r.1 = 14 ∨ r.1 = 15 ∨ r.1 = 12) → s'.1 r = s.1 r) (hf : ∀ k, k < 105 → f' k = f k) : RC s' i f' := by
  intro k hk hv
  have ht := rc_tag i k
  rw [hs _ ht.1 ht.2, hf k hk]
  refine h k hk ?_
  have e : cn f' = cn f := by unfold cn; rw [hf 1 (by decide)]
  rwa [e] at hv
/-- which cells may have changed -/
def FQ (X : Rf → Prop) (s t : Sn) : Prop := (∀ r, ¬ X r → t.1 r = s.1 r) ∧ t.2 = s.2
theorem FQ.rf {X : Rf → Prop} {s : Sn} : FQ X s s := ⟨fun _ _ => rfl, rfl⟩
theorem FQ.tr {X : Rf → Prop} {a b c : Sn} (h1 : FQ X a b) (h2 : FQ X b c) : FQ X a c := ⟨fun r hr => (h2.1 r hr).trans (h1.1 r hr), h2.2.trans h1.2⟩
theorem FQ.wd {X Y : Rf → Prop} {a b : Sn} (h : FQ X a b) (hs : ∀ r, X r → Y r) : FQ Y a b := ⟨fun r hr => h.1 r (fun z => hr (hs r z)), h.2⟩
theorem FQ.pt {X : Rf → Prop} {a b : Sn} {r : Rf} {k : Nat} {v : Int32} (h : FQ X a b) (hr : X r) : FQ X a (sI b r k v) := ⟨fun z hz => (sI_nr (fun e => hz (by rw [e]; exact hr))).trans (h.1 z hz), h.2⟩
theorem FQ.vt {X : Rf → Prop} {a b : Sn} {r : Rf} {f : Nat → Int32} (h : FQ X a b) (hr : X r) : FQ X a (sV b r f) := ⟨fun z hz => (sV_nr (fun e => hz (by rw [e]; exact hr))).trans (h.1 z hz), h.2⟩
theorem Fr.fq {X : List Rf} {Y : Rf → Prop} {a b : Sn} (h : Fr X a b) (hs : ∀ r, r ∈ X → Y r) : FQ Y a b := ⟨fun r hr => h.1 r (fun z => hr (hs r z)), h.2⟩
/-- a river's own cells that weeks change, and the rows on which laws are worked out -/
def XR (i : Nat) : Rf → Prop := fun r => r.1 = 36 ∨ (r.2.1 = i ∧ (r.1 = 11 ∨ r.1 = 12 ∨ r.1 = 16))
/-- a law of the class stands for a text of the reference -/
def LR (s : Sn) (n : Nat) (f : Fl) (t : Nat) : Prop := s.1 (34, n, 0) 0 = f (105 + 2 * t) / 1000 ∧ s.1 (34, n, 0) 1 = f (105 + 2 * t + 1) ∧ ∃ m, m ≤ 96 ∧ rm (f (105 + 2 * t)) 1000 = nI m ∧ s.2.2.1.2 n = m ∧ ∀ k, k < m → s.1 (35, n, 0) k = trC (f (133 + 96 * t + k))
def LwR (s : Sn) (i : Nat) (f : Fl) (c8 : Nat) : Prop := ∀ t, t < c8 → ∃ n, s.2.1 i t = some n ∧ n < s.2.2.2.1 ∧ LR s n f t
theorem LR.cg {s s' : Sn} {n t : Nat} {f f' : Fl} (h : LR s n f t) (h34 : s'.1 (34, n, 0) = s.1 (34, n, 0)) (h35 : s'.1 (35, n, 0) = s.1 (35, n, 0)) (h2 : s'.2.2.1.2 n = s.2.2.1.2 n) (hf : ∀ k, 105 ≤ k → f' k = f k) : LR s' n f' t := by
  obtain ⟨h1, h3, m, q1, q2, q3, q4⟩ := h
  exact ⟨by rw [h34, hf _ (by omega)]; exact h1, by rw [h34, hf _ (by omega)]; exact h3, m, q1, by rw [hf _ (by omega)]; exact q2, h2.trans q3, fun k hk => by rw [h35, hf _ (by omega)]; exact q4 k hk⟩
theorem LwR.cg {s s' : Sn} {i c8 : Nat} {f f' : Fl} (h : LwR s i f c8) (hs : ∀ r : Rf, r.1 = 34 ∨ r.1 = 35 → s'.1 r = s.1 r) (h2 : s'.2 = s.2) (hf : ∀ k, 105 ≤ k → f' k = f k) : LwR s' i f' c8 := by
  intro t ht
  obtain ⟨n, h1, h3, h4⟩ := h t ht
  exact ⟨n, by rw [h2]; exact h1, by rw [h2]; exact h3, h4.cg (hs _ (Or.inl rfl)) (hs _ (Or.inr rfl)) (by rw [h2]) hf⟩
theorem ctr_upd {p q : Nat → Bool} {j : Nat} (hpq : ∀ k, k ≠ j → q k = p k) : ∀ {n : Nat}, j < n → ctr q n + (if p j = true then 1 else 0) = ctr p n + (if q j = true then 1 else 0)
  | 0, h => absurd h (Nat.not_lt_zero j)
  | n + 1, h => by
    show ctr q n + (if q n = true then 1 else 0) + _ = ctr p n + (if p n = true then 1 else 0) + _
    by_cases e : j = n
    · subst e
      have h1 : ctr q j = ctr p j := ctr_cong (fun k hk => hpq k (by omega))
      rw [h1]; omega
    · have h1 := ctr_upd hpq (n := n) (by omega)
      rw [hpq n (Ne.symm e)]
      omega
theorem mny_upd {f : Fl} {j : Nat} {w v : Int32} (hj : j < cn f) : mny (upd f (45 + 5 * j + 3) w) v + (if f (45 + 5 * j + 3) = v then 1 else 0) = mny f v + (if w = v then 1 else 0) := by
  unfold mny
  rw [cn_upd (by omega)]
  have h := ctr_upd (p := fun g => decide (f (45 + 5 * g + 3) = v)) (q := fun g => decide (upd f (45 + 5 * j + 3) w (45 + 5 * g + 3) = v)) (j := j) (fun k hk => by rw [upd_ne (by omega)]) hj
  simp only [decide_eq_true_eq, upd_eq] at h
  exact h
theorem mny_oth {f : Fl} {k : Nat} {w v : Int32} (h1 : k ≠ 1) (hk : ∀ g, 45 + 5 * g + 3 ≠ k) : mny (upd f k w) v = mny f v := by
  unfold mny
  rw [cn_upd h1]
  exact ctr_cong (fun g _ => by rw [upd_ne (hk g)])
theorem mny_le {f : Fl} {v : Int32} : mny f v ≤ cn f := ctr_le _ _
/-- how many stand in each reach, as the class has counted them -/
def HD (s : Sn) (i : Nat) (f : Fl) : Prop := ∀ r, r < 12 → s.1 (16, i, 0) r = nI (mny f (nI r))
