/-! THE PURE PART, 93: how the class's object stands beside the reference's -/
/-- the river; whether there is an image, and it; sheets; slots; what waits; the tape -/
abbrev Dd : Type := Rv × Int32 × Rv × (Fl × Fl × Fl) × F4 × (Fl × Nat) × (Fl × Nat)
def CJ (t : Sn) : Dd → Prop := fun (ρ, h, γ, S, T, w, p) =>
  RVL t 0 ρ.1 ρ.2.1 ρ.2.2.1 ∧ t.1 (10, 0, 0) 9 = h ∧ (¬ h = 0 → RVL t 1 γ.1 γ.2.1 γ.2.2.1) ∧ SH t S.1 S.2.1 S.2.2 ∧ SL t T ∧ TE t w.1 w.2 ∧ TP t p.1 p.2 ∧ AB t ∧ TT t
def RJ (t : Sn) : Dd → Prop := fun (ρ, h, γ, S, T, w, p) =>
  t.1 (41, 0, 0) = ρ.1 ∧ t.1 (40, 0, 0) 3 = h ∧ t.1 (41, 1, 0) = γ.1 ∧ (∀ q, 1477 ≤ q → t.1 (41, 2, 0) q = 0) ∧ t.1 (41, 12, 0) = S.1 ∧ t.1 (41, 13, 0) = S.2.1 ∧ t.1 (41, 14, 0) = S.2.2 ∧ (t.1 (41, 15, 0), t.1 (41, 16, 0), t.1 (41, 17, 0), t.1 (41, 18, 0)) = T ∧ t.1 (41, 20, 0) = w.1 ∧ t.1 (40, 0, 0) 32 = nI w.2 ∧ t.1 (41, 4, 0) = p.1 ∧ t.1 (40, 0, 0) 6 = nI p.2 ∧ KY t ∧ ∃ te, TB t te
def PJ : Dd → Prop := fun (ρ, _, γ, S, T, w, p) => GR ρ ∧ GR γ ∧ SQ S.1 S.2.1 ∧ CQ S.2.2 ∧ HQ T ∧ w.2 ≤ 60 ∧ TQ p.1 ∧ p.2 ≤ 96
def INV (s : Sn) : Prop := ∃ D, CJ s D ∧ RJ s D ∧ PJ D
/-- what the class's call leaves of the rest -/
def Kw (s t : Sn) : Prop := (∀ r : Rf, r.1 = 0 ∨ (40 ≤ r.1 ∧ r.1 ≤ 43) → t.1 r = s.1 r) ∧ t.2.2.1.1 = s.2.2.1.1 ∧ t.2.2.2.1 ≤ s.2.2.2.1 + 1 ∧ t.2.2.2.2 ≤ s.2.2.2.2 + 196
/-- what the reference's call leaves of the rest -/
def Kz (s t : Sn) : Prop := (∀ r : Rf, ¬ (40 ≤ r.1 ∧ r.1 ≤ 43) → t.1 r = s.1 r) ∧ t.2 = s.2
/-- what both leave -/
def Ku (s t : Sn) : Prop := t.1 (0, 0, 0) = s.1 (0, 0, 0) ∧ t.2.2.1.1 = s.2.2.1.1 ∧ t.2.2.2.1 ≤ s.2.2.2.1 + 1 ∧ t.2.2.2.2 ≤ s.2.2.2.2 + 196
theorem Kp.kw {l J : List Nat} {s t : Sn} (h : Kp l J s t) (h0 : 0 ∉ l) (a0 : 40 ∉ l) (a1 : 41 ∉ l) (a2 : 42 ∉ l) (a3 : 43 ∉ l) : Kw s t := ⟨fun r hr => h.1 r (by
  by_cases e0 : r.1 = 0
  · rw [kq_t e0 (by decide)]; exact h0
  · rcases (by omega : r.1 = 40 ∨ r.1 = 41 ∨ r.1 = 42 ∨ r.1 = 43) with e | e | e | e <;> rw [kq_t e (by decide)] <;> assumption) (fun z => by omega), h.2.2.2.2.1, h.2.2.2.2.2.1, h.2.2.2.2.2.2⟩
theorem Kz.kp {s t : Sn} (h : Kz s t) : Kp [40, 41, 42, 43] [] s t := FQ.kp (X := fun r => 40 ≤ r.1 ∧ r.1 ≤ 43) ⟨h.1, h.2⟩ (fun r hr => by
  rcases (by omega : r.1 = 40 ∨ r.1 = 41 ∨ r.1 = 42 ∨ r.1 = 43) with e | e | e | e <;> rw [kq_t e (by decide)] <;> decide)
theorem Fr.kz {X : List Rf} {s t : Sn} (h : Fr X s t) (hX : ∀ r, r ∈ X → 40 ≤ r.1 ∧ r.1 ≤ 43) : Kz s t := ⟨fun r hr => h.1 r (fun z => hr (hX r z)), h.2⟩
theorem Ku.of {s t u : Sn} (h : Kw s t) (h2 : Kz t u) : Ku s u := ⟨(h2.1 _ (by show ¬ (40 ≤ 0 ∧ _); omega)).trans (h.1 _ (Or.inl rfl)), by rw [h2.2]; exact h.2.1, by rw [h2.2]; exact h.2.2.1, by rw [h2.2]; exact h.2.2.2⟩
theorem KY.cg {s t : Sn} (h : KY s) (e1 : t.1 (42, 0, 0) = s.1 (42, 0, 0)) (e2 : t.1 (41, 6, 0) = s.1 (41, 6, 0)) : KY t := by
  unfold KY
  rw [e1, e2]
  exact h
theorem TB.cg {s t : Sn} (h : ∃ te, TB s te) (e : t.1 (43, 0, 0) = s.1 (43, 0, 0)) : ∃ te, TB t te := by
  obtain ⟨te, h⟩ := h
  exact ⟨te, fun k hk => by rw [e]; exact h k hk⟩
theorem RJ.kw {s t : Sn} {D : Dd} (h : RJ s D) (hK : Kw s t) : RJ t D := by
  obtain ⟨ρ, h0, γ, S, T, w, p⟩ := D
  have e : ∀ a i j : Nat, 40 ≤ a → a ≤ 43 → t.1 (a, i, j) = s.1 (a, i, j) := fun a i j h1 h2 => hK.1 (a, i, j) (Or.inr ⟨h1, h2⟩)
  obtain ⟨r0, r3, r1, r2, r12, r13, r14, rT, r20, r32, r4, r6, rK, rB⟩ := h
  refine ⟨(e _ _ _ (by decide) (by decide)).trans r0, (congrFun (e _ _ _ (by decide) (by decide)) 3).trans r3, (e _ _ _ (by decide) (by decide)).trans r1, fun q hq => (congrFun (e _ _ _ (by decide) (by decide)) q).trans (r2 q hq), (e _ _ _ (by decide) (by decide)).trans r12, (e _ _ _ (by decide) (by decide)).trans r13, (e _ _ _ (by decide) (by decide)).trans r14, ?_, (e _ _ _ (by decide) (by decide)).trans r20, (congrFun (e _ _ _ (by decide) (by decide)) 32).trans r32, (e _ _ _ (by decide) (by decide)).trans r4, (congrFun (e _ _ _ (by decide) (by decide)) 6).trans r6, rK.cg (e _ _ _ (by decide) (by decide)) (e _ _ _ (by decide) (by decide)), TB.cg rB (e _ _ _ (by decide) (by decide))⟩
  rw [e 41 15 0 (by decide) (by decide), e 41 16 0 (by decide) (by decide), e 41 17 0 (by decide) (by decide), e 41 18 0 (by decide) (by decide)]
  exact rT
/-- kinds of cells that no promise is kept in, and the reference's -/
abbrev L0 : List Nat := [20, 23, 24, 36, 102, 40, 41, 42, 43]
theorem CJ.k0 {s t : Sn} {l : List Nat} {D : Dd} (h : CJ s D) (hK : Kp l [] s t) (hl : ∀ a, a ∈ l → a ∈ L0) : CJ t D := by
  obtain ⟨ρ, h0, γ, S, T, w, p⟩ := D
  obtain ⟨c1, c2, c3, c4, c5, c6, c7, c8, c9⟩ := h
  have hK := hK.wd (l' := L0) (J' := []) hl (fun _ z => z)
  exact ⟨RVL.kp (by decide) c1 hK (by decide) (by decide) (by decide) (by decide), (congrFun (hK.g (a := 10) (i := 0) (j := 0) (by decide) (by decide)) 9).trans c2, fun q => RVL.kp (by decide) (c3 q) hK (by decide) (by decide) (by decide) (by decide), c4.kp hK (by decide) (by decide), c5.kp hK (by decide) (by decide) (by decide) (by decide), c6.kp hK (by decide) (by decide), c7.kp hK (by decide) (by decide), c8.kp hK (by decide), c9.kp hK (by decide) (by decide)⟩
theorem CJ.k1 {s t : Sn} {l J : List Nat} {ρ ρ' : Rv} {h0 : Int32} {γ : Rv} {S : Fl × Fl × Fl} {T : F4} {w p : Fl × Nat} (h : CJ s (ρ, h0, γ, S, T, w, p)) (hK : Kp l J s t) (hl : ∀ a, a ∈ l → a ∈ 100 :: L0) (hJ : 1 ∉ J) (h1 : RVL t 0 ρ'.1 ρ'.2.1 ρ'.2.2.1) : CJ t (ρ', h0, γ, S, T, w, p) := by
  obtain ⟨c1, c2, c3, c4, c5, c6, c7, c8, c9⟩ := h
  have hK := hK.wd (l' := 100 :: L0) (J' := J) hl (fun _ z => z)
  exact ⟨h1, (congrFun (hK.g (a := 10) (i := 0) (j := 0) (by decide) (by decide)) 9).trans c2, fun q => RVL.kp (by decide) (c3 q) hK (by decide) (by decide) (by decide) hJ, c4.kp hK (by decide) (by decide), c5.kp hK (by decide) (by decide) (by decide) (by decide), c6.kp hK (by decide) (by decide), c7.kp hK (by decide) (by decide), c8.kp hK (by decide), c9.kp hK (by decide) (by decide)⟩
theorem RVL.hi {s t : Sn} {X : Rf → Prop} {f f' : Fl} {c c' c8 : Nat} (h : RVL s 0 f c c8) (hV : RV t 0 f' c') (hq : FQ X s t) (hX : ∀ r, r.1 = 34 ∨ r.1 = 35 → ¬ X r) (hf : HI f f') : RVL t 0 f' c' c8 := ⟨hV, h.2.1.cg (fun r hr => hq.1 r (hX r hr)) hq.2 (fun k hk => hf k (Or.inr hk)), fun u hu n hn => by rw [hq.2] at hn ⊢; exact h.2.2 u hu n hn⟩
theorem XR_34 : ∀ r : Rf, r.1 = 34 ∨ r.1 = 35 → ¬ XR 0 r := fun r hr hz => by
  rcases hz with hz | ⟨_, hz⟩ <;> omega
theorem XT_34 : ∀ r : Rf, r.1 = 34 ∨ r.1 = 35 → ¬ XT 0 r := fun r hr hz => by
  have := hz.2
  omega
/-- the reference's call that changes the river's row alone -/
theorem RJ.r1 {t u : Sn} {X : List Rf} {ρ ρ' : Rv} {h0 : Int32} {γ : Rv} {S : Fl × Fl × Fl} {T : F4} {w p : Fl × Nat} (h : RJ t (ρ, h0, γ, S, T, w, p)) (hF : Fr X t u) (hX : ∀ r, r ∈ X → r ∈ ([(41, 0, 0), (41, 3, 0), (41, 10, 0), (41, 11, 0), (41, 19, 0)] : List Rf)) (e0 : u.1 (41, 0, 0) = ρ'.1) : RJ u (ρ', h0, γ, S, T, w, p) := by
  have hF := hF.wd hX
  obtain ⟨r0, r3, r1, r2, r12, r13, r14, rT, r20, r32, r4, r6, rK, rB⟩ := h
  refine ⟨e0, (congrFun (hF.1 (40, 0, 0) (by decide)) 3).trans r3, (hF.1 _ (by decide)).trans r1, fun q hq => (congrFun (hF.1 (41, 2, 0) (by decide)) q).trans (r2 q hq), (hF.1 _ (by decide)).trans r12, (hF.1 _ (by decide)).trans r13, (hF.1 _ (by decide)).trans r14, ?_, (hF.1 _ (by decide)).trans r20, (congrFun (hF.1 (40, 0, 0) (by decide)) 32).trans r32, (hF.1 _ (by decide)).trans r4, (congrFun (hF.1 (40, 0, 0) (by decide)) 6).trans r6, rK.cg (hF.1 _ (by decide)) (hF.1 _ (by decide)), TB.cg rB (hF.1 _ (by decide))⟩
  rw [hF.1 (41, 15, 0) (by decide), hF.1 (41, 16, 0) (by decide), hF.1 (41, 17, 0) (by decide), hF.1 (41, 18, 0) (by decide)]
  exact rT
/-- a call of each -/
def SB2 (d : Nat) (MC MR : Mu) (as : List Av) (s : Sn) : Prop := Ca (d + 8) MC (vR 10 0 0 :: as) (hN s) (Pv fun y t => (t.1 (0, 0, 0) = s.1 (0, 0, 0) ∧ t.2.2.1.1 = s.2.2.1.1) ∧ Ca (d + 8) MR (vR 40 0 0 :: as) (hN t) (Pv fun z u => z = y ∧ INV u ∧ Ku s u))
theorem step2 {d : Nat} {MC MR : Mu} {as : List Av} {s : Sn} {D D' : Dd} {A : Int32} (hR : RJ s D) (hc : Ca (d + 8) MC (vR 10 0 0 :: as) (hN s) (Pv fun y t => y = A ∧ CJ t D' ∧ Kw s t)) (hr : ∀ t, RJ t D → Ca (d + 8) MR (vR 40 0 0 :: as) (hN t) (Pv fun y u => y = A ∧ RJ u D' ∧ Kz t u)) (hP : PJ D') : SB2 d MC MR as s := by
  refine hc.to (fun v σ hv => ?_)
  obtain ⟨y, t, rfl, rfl, ey, hC, hK⟩ := hv
  refine ⟨y, t, rfl, rfl, ⟨hK.1 _ (Or.inl rfl), hK.2.1⟩, (hr t (hR.kw hK)).to (fun v σ hv => ?_)⟩
  obtain ⟨z, u, rfl, rfl, ez, hR2, hZ⟩ := hv
  exact ⟨z, u, rfl, rfl, ez.trans ey.symm, ⟨D', hC.k0 hZ.kp (by decide), hR2, hP⟩, Ku.of hK hZ⟩
