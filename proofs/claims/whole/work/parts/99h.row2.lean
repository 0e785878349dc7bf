/-! THE PURE PART, 88: what always holds of a row: every call keeps it -/
theorem GF.u {f : Fl} {c c8 k : Nat} {v : Int32} (h : GF f c c8) (hk : k < 105) (n1 : k ≠ 1) (n7 : k < 7 ∨ 21 ≤ k) (q3 : k = 3 → ∃ a, a < 10 ∧ v = nI a) (q4 : k = 4 → ∃ a, a < 10 ∧ v = nI a) (k0 : ∀ g, k = 45 + 5 * g + 0 → g < c → ∃ a, a ≤ 5 ∧ v = nI a) (k2 : ∀ g, k = 45 + 5 * g + 2 → ∃ a, a ≤ 50 ∧ v = nI a) (k3 : ∀ g, k = 45 + 5 * g + 3 → (∃ a, a ≤ 13 ∧ v = nI a) ∧ (g < c → f k ≠ 12 ∧ v ≠ 12)) (k4 : ∀ g, k = 45 + 5 * g + 4 → ¬ g < c) : GF (upd f k v) c c8 := by
  have n8 : 8 ≠ k := by clear q3 q4 k0 k2 k3 k4; omega
  have nl : ∀ j, 7 ≤ j → j < 21 → j ≠ k := fun j h7 h21 => by clear q3 q4 k0 k2 k3 k4; omega
  obtain ⟨⟨hq, hm, h3, h4⟩, ⟨n, hL⟩, hK, hU, hN, hz⟩ := h
  have hi : ∀ j, 105 ≤ j → upd f k v j = f j := fun j hj => upd_ne (by clear q3 q4 k0 k2 k3 k4; omega)
  refine ⟨⟨hq.keep (upd_ne (Ne.symm n1)) (upd_ne n8) hi (fun g hg => ?_), fun g hg => ?_, ?_, ?_⟩, ⟨n, hL.cg (fun j h7 h21 => upd_ne (nl j h7 h21))⟩, fun g hg => ?_, hU.u hq.cn n1 (fun g e hg => (k3 g e).2 hg) k4, hN.cg hi, fun q hq => by rw [hi q (by omega)]; exact hz q hq⟩
  · by_cases e : k = 45 + 5 * g + 3
    · obtain ⟨a, ha, ev⟩ := (k3 g e).1
      exact ⟨a, ha, by rw [e, upd_eq]; exact ev⟩
    · rw [upd_ne (fun z => e z.symm)]
      exact hq.2.2.2.2.2 g hg
  · by_cases e : k = 45 + 5 * g + 2
    · obtain ⟨a, ha, ev⟩ := k2 g e
      exact ⟨a, ha, by rw [e, upd_eq]; exact ev⟩
    · rw [upd_ne (fun z => e z.symm)]
      exact hm g hg
  · by_cases e : k = 3
    · obtain ⟨a, ha, ev⟩ := q3 e
      exact ⟨a, ha, by rw [e, upd_eq]; exact ev⟩
    · rw [upd_ne (fun z => e z.symm)]
      exact h3
  · by_cases e : k = 4
    · obtain ⟨a, ha, ev⟩ := q4 e
      exact ⟨a, ha, by rw [e, upd_eq]; exact ev⟩
    · rw [upd_ne (fun z => e z.symm)]
      exact h4
  · by_cases e : k = 45 + 5 * g + 0
    · obtain ⟨a, ha, ev⟩ := k0 g e hg
      exact ⟨a, ha, by rw [e, upd_eq]; exact ev⟩
    · rw [upd_ne (fun z => e z.symm)]
      exact hK g hg
theorem GF.lo {f : Fl} {c c8 k : Nat} {v : Int32} (h : GF f c c8) (hk : k = 0 ∨ k = 2 ∨ k = 5 ∨ k = 6 ∨ (21 ≤ k ∧ k < 45)) : GF (upd f k v) c c8 := h.u (by omega) (by omega) (by omega) (fun e => by omega) (fun e => by omega) (fun g e => by omega) (fun g e => by omega) (fun g e => by omega) (fun g e => by omega)
theorem upd_cm {f : Fl} {k j : Nat} {a b : Int32} (h : k ≠ j) : upd (upd f k a) j b = upd (upd f j b) k a := by
  funext q
  by_cases e : q = j
  · subst e
    rw [upd_eq, upd_ne (Ne.symm h), upd_eq]
  · rw [upd_ne e]
    by_cases e2 : q = k
    · subst e2
      rw [upd_eq, upd_eq]
    · rw [upd_ne e2, upd_ne e2, upd_ne e]
theorem GF.ct {f : Fl} {c c8 : Nat} (h : GF f c c8) (hc : c < 12) (h0 : ∃ a, a ≤ 5 ∧ f (45 + 5 * c + 0) = nI a) (h3 : f (45 + 5 * c + 3) ≠ 12) (h4 : f (45 + 5 * c + 4) = 0) : GF (upd f 1 (nI (c + 1))) (c + 1) c8 := by
  obtain ⟨⟨hq, hm, hf3, hf4⟩, ⟨n, hL⟩, hK, hU, hN, hz⟩ := h
  have hi : ∀ j, 105 ≤ j → upd f 1 (nI (c + 1)) j = f j := fun j hj => upd_ne (by omega)
  have ho : ∀ j, j ≠ 1 → upd f 1 (nI (c + 1)) j = f j := fun j hj => upd_ne hj
  have hmn : mny (upd f 1 (nI (c + 1))) 12 = mny f 12 := by
    have e1 : cn (upd f 1 (nI (c + 1))) = c + 1 := by unfold cn; rw [upd_eq, nI_clamp (by omega)]
    have e2 : cn f = c := hq.cn
    unfold mny
    rw [e1, e2]
    show ctr _ c + (if decide (upd f 1 (nI (c + 1)) (45 + 5 * c + 3) = 12) = true then 1 else 0) = _
    rw [ho _ (by omega), decide_eq_false h3, if_neg (by decide)]
    exact ctr_cong (fun g hg => by rw [ho _ (by omega)])
  refine ⟨⟨⟨upd_eq, by omega, (ho 8 (by decide)).trans hq.2.2.1, hq.2.2.2.1, fun t ht => WT_cong hi (hq.2.2.2.2.1 t ht), fun g hg => by rw [ho _ (by omega)]; exact hq.2.2.2.2.2 g hg⟩, fun g hg => by rw [ho _ (by omega)]; exact hm g hg, by rw [ho 3 (by decide)]; exact hf3, by rw [ho 4 (by decide)]; exact hf4⟩, ⟨n, hL.cg (fun j h7 h21 => ho j (by omega))⟩, fun g hg => ?_, ⟨fun p q hp hq2 e n0 => ?_, fun g hg => ?_⟩, hN.cg hi, fun q hq => by rw [hi q (by omega)]; exact hz q hq⟩
  · rw [ho _ (by omega)]
    by_cases e : g = c
    · rw [e]; exact h0
    · exact hK g (by omega)
  · rw [ho _ (by omega)] at e n0
    rw [ho _ (by omega)] at e
    by_cases e1 : p = c
    · rw [e1] at n0
      exact absurd h4 n0
    · by_cases e2 : q = c
      · rw [e2] at e
        exact absurd (e.trans h4) n0
      · exact hU.1 p q (by omega) (by omega) e n0
  · rw [ho _ (by omega), hmn]
    by_cases e : g = c
    · exact ⟨0, Nat.zero_le _, by rw [e]; exact h4⟩
    · exact hU.2 g (by omega)
theorem GF.cm {f : Fl} {c c8 : Nat} {k l m : Int32} (h : GF f c c8) (hc : c < 12) (hk : ∃ a, a ≤ 5 ∧ k = nI a) (hm : ∃ a, a ≤ 50 ∧ m = nI a) : GF (cmf f c k l m) (c + 1) c8 := by
  have e : cmf f c k l m = upd (upd (upd (upd (upd (upd f (45 + 5 * c + 0) k) (45 + 5 * c + 1) l) (45 + 5 * c + 2) m) (45 + 5 * c + 3) 0) (45 + 5 * c + 4) 0) 1 (nI (c + 1)) := by
    rw [cmf, upd_cm (k := 1) (j := 45 + 5 * c + 0) (by omega), upd_cm (k := 1) (j := 45 + 5 * c + 1) (by omega), upd_cm (k := 1) (j := 45 + 5 * c + 2) (by omega), upd_cm (k := 1) (j := 45 + 5 * c + 3) (by omega), upd_cm (k := 1) (j := 45 + 5 * c + 4) (by omega)]
  rw [e]
  have g0 : GF (upd f (45 + 5 * c + 0) k) c c8 := h.u (by omega) (by omega) (by omega) (fun e => by omega) (fun e => by omega) (fun g e hg => by omega) (fun g e => by omega) (fun g e => by omega) (fun g e => by omega)
  have g1 : GF (upd (upd f (45 + 5 * c + 0) k) (45 + 5 * c + 1) l) c c8 := g0.u (by omega) (by omega) (by omega) (fun e => by omega) (fun e => by omega) (fun g e hg => by omega) (fun g e => by omega) (fun g e => by omega) (fun g e => by omega)
  have g2 : GF (upd (upd (upd f (45 + 5 * c + 0) k) (45 + 5 * c + 1) l) (45 + 5 * c + 2) m) c c8 := g1.u (by omega) (by omega) (by omega) (fun e => by omega) (fun e => by omega) (fun g e hg => by omega) (fun g e => hm) (fun g e => by omega) (fun g e => by omega)
  have g3 : GF (upd (upd (upd (upd f (45 + 5 * c + 0) k) (45 + 5 * c + 1) l) (45 + 5 * c + 2) m) (45 + 5 * c + 3) 0) c c8 := g2.u (by omega) (by omega) (by omega) (fun e => by omega) (fun e => by omega) (fun g e hg => by omega) (fun g e => by omega) (fun g e => ⟨⟨0, by omega, rfl⟩, fun hg => by omega⟩) (fun g e => by omega)
  have g4 : GF (upd (upd (upd (upd (upd f (45 + 5 * c + 0) k) (45 + 5 * c + 1) l) (45 + 5 * c + 2) m) (45 + 5 * c + 3) 0) (45 + 5 * c + 4) 0) c c8 := g3.u (by omega) (by omega) (by omega) (fun e => by omega) (fun e => by omega) (fun g e hg => by omega) (fun g e => by omega) (fun g e => by omega) (fun g e hg => by omega)
  refine g4.ct hc ?_ ?_ upd_eq
  · rw [upd_ne (by omega), upd_ne (by omega), upd_ne (by omega), upd_ne (by omega), upd_eq]
    exact hk
  · rw [upd_ne (by omega), upd_eq]
    decide
theorem okl_k {k l m : Int32} (h : okl k l m) : (∃ a, a ≤ 5 ∧ k = nI a) ∧ ∃ a, a ≤ 50 ∧ m = nI a := by
  refine ⟨nat60 (b := 5) (by decide) h.1.1, ?_⟩
  obtain ⟨n, _, h2, h3⟩ := one_nat (b := 50) (by decide) h.2
  exact ⟨n, h2, h3⟩
theorem GF.lg {f : Fl} {c c8 : Nat} {k l m : Int32} (h : GF f c c8) : GF (lgF f c k l m) (lgC c k l m) c8 := by
  unfold lgF lgC
  by_cases o : okl k l m ∧ c ≠ 12
  · rw [if_pos o, if_pos o]
    obtain ⟨hk, hm⟩ := okl_k o.1
    exact h.cm (by have := h.1.1.2.1; have := o.2; omega) hk hm
  · rw [if_neg o, if_neg o]
    exact h
theorem GF.dw {f : Fl} {c c8 : Nat} (h : GF f c c8) (hc : c < 12) : GF (drw f c) (c + 1) c8 := by
  obtain ⟨a, ha, e1⟩ := dv_nat (dz (f 0))
  obtain ⟨b, hb, e2⟩ := dv_nat (dz (dz (dz (f 0))))
  refine (h.lo (k := 0) (Or.inl rfl)).cm hc ⟨a % 6, by have := Nat.mod_lt a (show 0 < 6 by decide); omega, ?_⟩ ⟨b % 50 + 1, by have := Nat.mod_lt b (show 0 < 50 by decide); omega, ?_⟩
  · rw [e1]
    exact rm_nat (c := 6) (by omega) (by decide) (by decide)
  · rw [e2, show rm (nI b) 50 = nI (b % 50) from rm_nat (c := 50) (by omega) (by decide) (by decide), Int32.add_comm, nI_1]
theorem GF_dls {c8 : Nat} : ∀ (n c : Nat) (f : Fl), c + n ≤ 12 → GF f c c8 → GF (dls n c f) (c + n) c8
  | 0, _, _, _, h => h
  | n + 1, c, f, hc, h => by
    have := GF_dls n (c + 1) (drw f c) (by omega) (h.dw (by omega))
    rw [show c + (n + 1) = c + 1 + n by omega]
    exact this
theorem GF.dl {f : Fl} {c c8 : Nat} {x : Int32} (h : GF f c c8) : GF (dlF f c x) (dlC c x) c8 := by
  unfold dlF dlC
  by_cases o : 1 ≤ x ∧ x ≤ 12
  · rw [if_pos o, if_pos o]
    exact GF_dls _ c f (by have := h.1.1.2.1; unfold dlN; omega) h
  · rw [if_neg o, if_neg o]
    exact h
theorem bel {c : Nat} {x : Int32} (hc : c ≤ 12) (h : 0 ≤ x ∧ x ≤ nI c - 1) : ∃ n, n < c ∧ x = nI n := by
  cases c with
  | zero => exact absurd (Int32.le_trans h.1 h.2) (by decide)
  | succ c =>
    rw [nI_pred] at h
    obtain ⟨n, hn, e⟩ := nat60 (by omega) h
    exact ⟨n, by omega, e⟩
theorem GF.tu {f : Fl} {c c8 : Nat} {x v : Int32} (h : GF f c c8) : GF (tuF f c x v) c c8 := by
  unfold tuF
  split
  · rename_i o
    obtain ⟨n, hn, e⟩ := bel h.1.1.2.1 o.1
    have h12 := h.1.1.2.1
    obtain ⟨a, ha, ev⟩ := nat60 (b := 5) (by decide) o.2
    rw [e, nI_clamp (by omega)]
    exact h.u (by omega) (by omega) (by omega) (fun e => by omega) (fun e => by omega) (fun g e hg => ⟨a, ha, ev⟩) (fun g e => by omega) (fun g e => by omega) (fun g e => by omega)
  · exact h
theorem GF.st {f : Fl} {c c8 : Nat} {x w v : Int32} (h : GF f c c8) : GF (stF f c x w v) c c8 := by
  unfold stF
  split
  · rename_i o
    obtain ⟨n, hn, e⟩ := bel h.1.1.2.1 o.1
    have h12 := h.1.1.2.1
    rw [e, nI_clamp (by omega)]
    rcases o.2 with q | q
    · rw [q.1, show (1 : Int32).toNatClampNeg = 1 from rfl]
      exact h.u (by omega) (by omega) (by omega) (fun e => by omega) (fun e => by omega) (fun g e hg => by omega) (fun g e => by omega) (fun g e => by omega) (fun g e => by omega)
    · obtain ⟨a, _, ha, ev⟩ := one_nat (b := 50) (by decide) q.2
      rw [q.1, show (2 : Int32).toNatClampNeg = 2 from rfl]
      exact h.u (by omega) (by omega) (by omega) (fun e => by omega) (fun e => by omega) (fun g e hg => by omega) (fun g e => ⟨a, ha, ev⟩) (fun g e => by omega) (fun g e => by omega)
  · exact h
theorem GF.ly {f : Fl} {c c8 : Nat} {x y : Int32} (h : GF f c c8) : GF (lyF f c x y) c c8 := by
  unfold lyF
  split
  · rename_i o
    obtain ⟨n, hn, e⟩ := bel h.1.1.2.1 o.1.1
    have h12 := h.1.1.2.1
    have o2 := o.2
    rw [e, nI_clamp (by omega)] at o2 ⊢
    have hy : ∃ a, a ≤ 13 ∧ a ≠ 12 ∧ y = nI a := by
      rcases o.1.2 with q | q
      · obtain ⟨a, ha, ev⟩ := nat60 (b := 11) (by decide) q
        exact ⟨a, by omega, by omega, ev⟩
      · exact ⟨13, by omega, by omega, q⟩
    obtain ⟨a, ha, h2, ev⟩ := hy
    exact h.u (by omega) (by omega) (by omega) (fun e => by omega) (fun e => by omega) (fun g e hg => by omega) (fun g e => by omega) (fun g e => ⟨⟨a, ha, ev⟩, fun _ => ⟨o2, fun z => h2 ((nI_eq (b := 12) (by omega) (by omega)).mp (ev.symm.trans z))⟩⟩) (fun g e => by omega)
  · exact h
theorem GF.rh {f : Fl} {c c8 : Nat} {x w v : Int32} (h : GF f c c8) : GF (rhF f x w v) c c8 := by
  unfold rhF
  split
  · rename_i o
    obtain ⟨n, hn, e⟩ := nat60 (b := 11) (by decide) o.1
    rw [e, nI_clamp (by omega)]
    rcases o.2 with q | q
    · rw [q.1, show (0 : Int32).toNatClampNeg = 0 from rfl]
      exact h.lo (by omega)
    · rw [q.1, show (1 : Int32).toNatClampNeg = 1 from rfl]
      exact h.lo (by omega)
  · exact h
theorem GF.ru {f : Fl} {c c8 : Nat} {w v : Int32} (h : GF f c c8) : GF (ruF f w v) c c8 := by
  unfold ruF
  split
  · rename_i o
    obtain ⟨n, hn, e⟩ := nat60 (b := 9) (by decide) o.2
    exact h.u (by omega) (by omega) (by omega) (fun e => by omega) (fun _ => ⟨n, by omega, e⟩) (fun g e hg => by omega) (fun g e => by omega) (fun g e => by omega) (fun g e => by omega)
  · split
    · exact h.lo (by omega)
    · split
      · rename_i o
        obtain ⟨n, hn, e⟩ := nat60 (b := 9) (by decide) o.2
        exact h.u (by omega) (by omega) (by omega) (fun _ => ⟨n, by omega, e⟩) (fun e => by omega) (fun g e hg => by omega) (fun g e => by omega) (fun g e => by omega) (fun g e => by omega)
      · exact h
/-- the word changes alone -/
theorem GF.wd {f f' : Fl} {c c8 n : Nat} (h : GF f c c8) (ho : ∀ k, k ≠ 7 → ¬ (9 ≤ k ∧ k < 21) → f' k = f k) (hL : LL f' n) : GF f' c c8 := by
  obtain ⟨⟨hq, hm, h3, h4⟩, _, hK, hU, hN, hz⟩ := h
  have hi : ∀ j, 105 ≤ j → f' j = f j := fun j hj => ho j (by omega) (by omega)
  have e1 := ho 1 (by omega) (by omega)
  refine ⟨⟨hq.keep e1 (ho 8 (by omega) (by omega)) hi (fun g hg => by rw [ho _ (by omega) (by omega)]; exact hq.2.2.2.2.2 g hg), fun g hg => by rw [ho _ (by omega) (by omega)]; exact hm g hg, by rw [ho 3 (by omega) (by omega)]; exact h3, by rw [ho 4 (by omega) (by omega)]; exact h4⟩, ⟨n, hL⟩, fun g hg => by rw [ho _ (by omega) (by omega)]; exact hK g hg, hU.cg (fun g hg => ho _ (by omega) (by omega)) ?_, hN.cg hi, fun q hq => by rw [hi q (by omega)]; exact hz q hq⟩
  unfold mny cn
  rw [e1]
  exact ctr_cong (fun g hg => by rw [ho _ (by omega) (by omega)])
theorem GF.wor {f : Fl} {c c8 n : Nat} {x : Int32} (h : GF f c c8) (hL : LL f n) : GF (wdF f n x) c c8 := by
  unfold wdF
  split
  · rename_i o
    have hn : n < 12 := by have := hL.2.1; have := o.2; omega
    obtain ⟨a, ha, ev⟩ := nat60 (b := 25) (by decide) o.1
    refine h.wd (n := n + 1) (fun k h7 h9 => ?_) ⟨upd_eq, by omega, fun k hk => ?_⟩
    · unfold ltf
      rw [upd_ne h7, upd_ne (by omega)]
    · unfold ltf
      rw [upd_ne (by omega)]
      by_cases e : k = n
      · exact ⟨a, by omega, by rw [e, upd_eq]; exact ev⟩
      · rw [upd_ne (by omega)]
        exact hL.2.2 k (by omega)
  · exact h
theorem GF.unw {f : Fl} {c c8 : Nat} (h : GF f c c8) : GF (upd f 7 0) c c8 := h.wd (n := 0) (fun k h7 _ => upd_ne h7) ⟨upd_eq, by omega, fun k hk => by omega⟩
theorem GF_por {ce : Fl} {a n c c8 : Nat} {f : Fl} (h : GF f c c8) : ∀ r, r ≤ 12 → GF (por f ce a n r).1 c c8
  | 0, _ => h
  | r + 1, hr => by
    have hp := GF_por (ce := ce) (a := a) (n := n) h r (by omega)
    by_cases e : r < n ∧ ¬ ce (24 * a + r) = -1000000005
    · rw [por_y e]
      exact hp.lo (by omega)
    · rw [por_n e]
      exact hp
theorem GF.po {f so si ce : Fl} {c c8 : Nat} {x : Int32} (h : GF f c c8) : GF (poF f so si ce x) c c8 := by
  unfold poF
  split
  · split
    · exact h
    · exact GF_por h 12 (Nat.le_refl _)
  · exact h
