/-! THE PURE PART, 90: what a call leaves alone, by the kinds of cells -/
/-- a cell's kind: what belongs to a river goes by the river (100 the river, 101 the image, 102 what is only thought), all else by its tag -/
def kq (r : Rf) : Nat := if 11 ≤ r.1 ∧ r.1 ≤ 18 then 100 + min r.2.1 2 else r.1
theorem kq_r {r : Rf} {i : Nat} (hi : i < 2) (h1 : r.2.1 = i) (h : r.1 = 11 ∨ r.1 = 17 ∨ r.1 = 14 ∨ r.1 = 15 ∨ r.1 = 12 ∨ r.1 = 16 ∨ r.1 = 13 ∨ r.1 = 18) : kq r = 100 + i := by
  unfold kq
  rw [if_pos (by omega), h1, Nat.min_eq_left (by omega)]
theorem kq_2 {r : Rf} (h1 : 2 ≤ r.2.1) (h : r.1 = 11 ∨ r.1 = 17 ∨ r.1 = 14 ∨ r.1 = 15 ∨ r.1 = 12 ∨ r.1 = 16 ∨ r.1 = 13 ∨ r.1 = 18) : kq r = 102 := by
  unfold kq
  rw [if_pos (by omega), Nat.min_eq_right h1]
theorem kq_t {r : Rf} {a : Nat} (h : r.1 = a) (ha : ¬ (11 ≤ a ∧ a ≤ 18)) : kq r = a := by
  unfold kq
  rw [if_neg (by omega), h]
/-- all else is left alone; one law more at most -/
def Kp (l : List Nat) (J : List Nat) (s t : Sn) : Prop := (∀ r, kq r ∉ l → (r.1 = 34 ∨ r.1 = 35 → r.2.1 < s.2.2.2.1) → t.1 r = s.1 r) ∧ (∀ a, a < 2 → a ∉ J → t.2.1 a = s.2.1 a) ∧ (∀ n, n < s.2.2.2.1 → t.2.2.1.2 n = s.2.2.1.2 n) ∧ s.2.2.2.1 ≤ t.2.2.2.1 ∧ t.2.2.1.1 = s.2.2.1.1 ∧ t.2.2.2.1 ≤ s.2.2.2.1 + 1 ∧ t.2.2.2.2 ≤ s.2.2.2.2 + 196
theorem FW.kp {X : Rf → Prop} {I : Nat → Prop} {l J : List Nat} {s t : Sn} (h : FW X I s t) (hX : ∀ r, X r → kq r ∈ l) (hI : ∀ a, a < 2 → I a → a ∈ J) : Kp l J s t := ⟨fun r hr _ => h.1 r (fun z => hr (hX r z)), fun a ha hJ => h.2.1 a (fun z => hJ (hI a ha z)), fun n _ => by rw [h.2.2], by rw [h.2.2]; exact Nat.le_refl _, by rw [h.2.2], by rw [h.2.2]; omega, by rw [h.2.2]; omega⟩
theorem FQ.kp {X : Rf → Prop} {l : List Nat} {s t : Sn} (h : FQ X s t) (hX : ∀ r, X r → kq r ∈ l) : Kp l [] s t := FW.kp (I := fun _ => False) h.fw hX (fun _ _ z => z.elim)
theorem Fr.kp {X : List Rf} {l : List Nat} {s t : Sn} (h : Fr X s t) (hX : ∀ r, r ∈ X → kq r ∈ l) : Kp l [] s t := FQ.kp (X := fun r => r ∈ X) ⟨h.1, h.2⟩ hX
theorem Kp.rf {l J : List Nat} {s : Sn} : Kp l J s s := ⟨fun _ _ _ => rfl, fun _ _ _ => rfl, fun _ _ => rfl, Nat.le_refl _, rfl, by omega, by omega⟩
theorem Kp.wd {l J l' J' : List Nat} {s t : Sn} (h : Kp l J s t) (hl : ∀ a, a ∈ l → a ∈ l') (hJ : ∀ a, a ∈ J → a ∈ J') : Kp l' J' s t := ⟨fun r hr => h.1 r (fun z => hr (hl _ z)), fun a ha hr => h.2.1 a ha (fun z => hr (hJ _ z)), h.2.2⟩
theorem Kp.c {l J : List Nat} {s t : Sn} {r : Rf} {a : Nat} (h : Kp l J s t) (e : kq r = a) (ha : a ∉ l) (hl : ¬ r.1 = 34 ∧ ¬ r.1 = 35) : t.1 r = s.1 r := h.1 r (by rw [e]; exact ha) (fun z => z.elim (fun q => absurd q hl.1) (fun q => absurd q hl.2))
theorem Kp.g {l J : List Nat} {s t : Sn} {a i j : Nat} (h : Kp l J s t) (ha : a ∉ l) (hn : ¬ (11 ≤ a ∧ a ≤ 18) ∧ ¬ a = 34 ∧ ¬ a = 35) : t.1 (a, i, j) = s.1 (a, i, j) := h.c (kq_t (r := (a, i, j)) rfl hn.1) ha hn.2
theorem RVL.kp {s t : Sn} {l J : List Nat} {i c c8 : Nat} {f : Fl} (hi : i < 2) (h : RVL s i f c c8) (hK : Kp l J s t) (hl : 100 + i ∉ l) (h34 : 34 ∉ l) (h35 : 35 ∉ l) (hJ : i ∉ J) : RVL t i f c c8 := by
  obtain ⟨⟨hR, h13, h1, hc⟩, hL, hr⟩ := h
  have e11 : t.1 (11, i, 0) = s.1 (11, i, 0) := hK.c (kq_r hi rfl (Or.inl rfl)) hl ⟨by show ¬ 11 = 34; decide, by show ¬ 11 = 35; decide⟩
  have eJ := hK.2.1 i hi hJ
  refine ⟨⟨hR.cg (fun r h1 h2 => hK.c (kq_r hi h1 (by omega)) hl ⟨by omega, by omega⟩) (fun _ _ => rfl), by rw [e11]; exact h13, h1, hc⟩, fun u hu => ?_, fun u hu n hn => ?_⟩
  · obtain ⟨n, e1, e2, e3⟩ := hL u hu
    refine ⟨n, by rw [eJ]; exact e1, Nat.lt_of_lt_of_le e2 hK.2.2.2.1, e3.cg ?_ ?_ (hK.2.2.1 n e2) (fun _ _ => rfl)⟩
    · exact hK.1 _ (by rw [kq_t (a := 34) rfl (by decide)]; exact h34) (fun _ => e2)
    · exact hK.1 _ (by rw [kq_t (a := 35) rfl (by decide)]; exact h35) (fun _ => e2)
  · rw [eJ] at hn
    exact Nat.lt_of_lt_of_le (hr u hu n hn) hK.2.2.2.1
theorem SH.kp {s t : Sn} {l J : List Nat} {so si ce : Fl} (h : SH s so si ce) (hK : Kp l J s t) (h1 : 28 ∉ l) (h2 : 29 ∉ l) : SH t so si ce := fun a ha => by
  rw [hK.g (a := 28) (i := a) (j := 0) h1 (by decide), hK.g (a := 29) (i := a) (j := 0) h2 (by decide)]
  exact h a ha
theorem SL.kp {s t : Sn} {l J : List Nat} {T : F4} (h : SL s T) (hK : Kp l J s t) (h0 : 30 ∉ l) (h1 : 31 ∉ l) (h2 : 32 ∉ l) (h3 : 33 ∉ l) : SL t T := fun a ha => by
  rw [hK.g (a := 30) (i := a) (j := 0) h0 (by decide), hK.g (a := 31) (i := a) (j := 0) h1 (by decide), hK.g (a := 32) (i := a) (j := 0) h2 (by decide), hK.g (a := 33) (i := a) (j := 0) h3 (by decide)]
  exact h a ha
theorem TE.kp {s t : Sn} {l J : List Nat} {te : Fl} {k : Nat} (h : TE s te k) (hK : Kp l J s t) (h0 : 10 ∉ l) (h1 : 27 ∉ l) : TE t te k := by
  unfold TE
  rw [hK.g (a := 10) (i := 0) (j := 0) h0 (by decide), hK.g (a := 27) (i := 0) (j := 0) h1 (by decide)]
  exact h
theorem TP.kp {s t : Sn} {l J : List Nat} {tp : Fl} {n : Nat} (h : TP s tp n) (hK : Kp l J s t) (h0 : 21 ∉ l) (h1 : 22 ∉ l) : TP t tp n := by
  unfold TP
  rw [hK.g (a := 21) (i := 0) (j := 0) h0 (by decide), hK.g (a := 22) (i := 0) (j := 0) h1 (by decide)]
  exact h
theorem AB.kp {s t : Sn} {l J : List Nat} (h : AB s) (hK : Kp l J s t) (h0 : 1 ∉ l) : AB t := by
  unfold AB
  rw [hK.g (a := 1) (i := 0) (j := 0) h0 (by decide)]
  exact h
theorem SB.kp {s t : Sn} {l J : List Nat} {u : Nat} {g : Fl} (h : SB s u g) (hK : Kp l J s t) (h2 : 2 ∉ l) (h3 : 3 ∉ l) : SB t u g := by
  unfold SB
  rw [hK.g (a := 2) (i := u) (j := 0) h2 (by decide), hK.g (a := 3) (i := u) (j := 0) h3 (by decide)]
  exact h
theorem TT.kp {s t : Sn} {l J : List Nat} (h : TT s) (hK : Kp l J s t) (h2 : 2 ∉ l) (h3 : 3 ∉ l) : TT t := ⟨h.1.kp hK h2 h3, h.2.1.kp hK h2 h3, h.2.2.1.kp hK h2 h3, h.2.2.2.1.kp hK h2 h3, h.2.2.2.2.1.kp hK h2 h3, h.2.2.2.2.2.kp hK h2 h3⟩
theorem XR_k : ∀ r, XR 0 r → kq r ∈ [100, 36] := fun r h => by
  rcases h with h | ⟨h1, h⟩
  · rw [kq_t h (by decide)]; decide
  · rw [kq_r (i := 0) (by decide) h1 (by omega)]; decide
theorem XT_k {i : Nat} (hi : i < 2) : ∀ r, XT i r → kq r ∈ [100 + i] := fun r h => by
  rw [kq_r hi h.1 (by have := h.2; omega)]
  exact List.mem_singleton.mpr rfl
theorem XQ_k : ∀ r, XQ r → kq r ∈ [102, 36] := fun r h => by
  rcases h with h | ⟨h1, h⟩
  · rw [kq_t h (by decide)]; decide
  · rw [kq_2 h1 (by omega)]; decide
theorem X36_k : ∀ r, X36 r → kq r ∈ [36] := fun r h => by
  rw [kq_t (show r.1 = 36 from h) (by decide)]; decide
theorem XS_k : ∀ r, XS r → kq r ∈ [28, 29] := fun r h => by
  rcases h with h | h
  · rw [kq_t h (by decide)]; decide
  · rw [kq_t h (by decide)]; decide
theorem XL_k : ∀ r, XL r → kq r ∈ [30, 31, 32, 33] := fun r h => by
  rcases h with h | h | h | h
  · rw [kq_t h (by decide)]; decide
  · rw [kq_t h (by decide)]; decide
  · rw [kq_t h (by decide)]; decide
  · rw [kq_t h (by decide)]; decide
