/-! THE PURE PART, 89: what a call leaves of a row's texts; a text comes -/
/-- the texts and their number are left alone -/
def HI (f f' : Fl) : Prop := ∀ k, k = 8 ∨ 105 ≤ k → f' k = f k
theorem HI.rf {f : Fl} : HI f f := fun _ _ => rfl
theorem HI.tr {a b c : Fl} (h1 : HI a b) (h2 : HI b c) : HI a c := fun k hk => (h2 k hk).trans (h1 k hk)
theorem HI.u {f : Fl} {k : Nat} {v : Int32} (h8 : k ≠ 8) (hk : k < 105) : HI f (upd f k v) := fun j hj => upd_ne (by omega)
theorem HI_cm {f : Fl} {c : Nat} {k l m : Int32} (hc : c < 12) : HI f (cmf f c k l m) := fun j hj => cmf_oth (by omega) (by omega)
theorem HI_lg {f : Fl} {c : Nat} {k l m : Int32} (hc : c ≤ 12) : HI f (lgF f c k l m) := by
  unfold lgF
  split
  · rename_i o
    exact HI_cm (by have := o.2; omega)
  · exact HI.rf
theorem HI_dls : ∀ (n c : Nat) (f : Fl), c + n ≤ 12 → HI f (dls n c f)
  | 0, _, _, _ => HI.rf
  | n + 1, c, f, hc => ((HI.u (f := f) (k := 0) (by decide) (by decide)).tr (HI_cm (by omega))).tr (HI_dls n (c + 1) (drw f c) (by omega))
theorem HI_dl {f : Fl} {c : Nat} {x : Int32} (hc : c ≤ 12) : HI f (dlF f c x) := by
  unfold dlF
  split
  · exact HI_dls _ c f (by unfold dlN; omega)
  · exact HI.rf
theorem HI_tu {f : Fl} {c c8 : Nat} {x v : Int32} (h : GF f c c8) : HI f (tuF f c x v) := by
  unfold tuF
  split
  · rename_i o
    obtain ⟨n, hn, e⟩ := bel h.1.1.2.1 o.1
    have h12 := h.1.1.2.1
    obtain ⟨a, ha, ev⟩ := nat60 (b := 5) (by decide) o.2
    rw [e, nI_clamp (by omega)]
    exact HI.u (by omega) (by omega)
  · exact HI.rf
theorem HI_st {f : Fl} {c c8 : Nat} {x w v : Int32} (h : GF f c c8) : HI f (stF f c x w v) := by
  unfold stF
  split
  · rename_i o
    obtain ⟨n, hn, e⟩ := bel h.1.1.2.1 o.1
    have h12 := h.1.1.2.1
    rw [e, nI_clamp (by omega)]
    rcases o.2 with q | q
    · rw [q.1, show (1 : Int32).toNatClampNeg = 1 from rfl]
      exact HI.u (by omega) (by omega)
    · obtain ⟨a, _, ha, ev⟩ := one_nat (b := 50) (by decide) q.2
      rw [q.1, show (2 : Int32).toNatClampNeg = 2 from rfl]
      exact HI.u (by omega) (by omega)
  · exact HI.rf
theorem HI_ly {f : Fl} {c c8 : Nat} {x y : Int32} (h : GF f c c8) : HI f (lyF f c x y) := by
  unfold lyF
  split
  · rename_i o
    obtain ⟨n, hn, e⟩ := bel h.1.1.2.1 o.1.1
    have h12 := h.1.1.2.1
    have o2 := o.2
    rw [e, nI_clamp (by omega)] at o2 ⊢
    have hy : ∃ a, a ≤ 13 ∧ a ≠ 12 ∧ y = nI a := by
      rcases o.1.2 with q | q
      · obtain ⟨a, ha, ev⟩ := nat60 (b := 11) (by decide) q
        exact ⟨a, by omega, by omega, ev⟩
      · exact ⟨13, by omega, by omega, q⟩
    obtain ⟨a, ha, h2, ev⟩ := hy
    exact HI.u (by omega) (by omega)
  · exact HI.rf
theorem HI_rh {f : Fl} {c c8 : Nat} {x w v : Int32} (h : GF f c c8) : HI f (rhF f x w v) := by
  unfold rhF
  split
  · rename_i o
    obtain ⟨n, hn, e⟩ := nat60 (b := 11) (by decide) o.1
    rw [e, nI_clamp (by omega)]
    rcases o.2 with q | q
    · rw [q.1, show (0 : Int32).toNatClampNeg = 0 from rfl]
      exact HI.u (by omega) (by omega)
    · rw [q.1, show (1 : Int32).toNatClampNeg = 1 from rfl]
      exact HI.u (by omega) (by omega)
  · exact HI.rf
theorem HI_ru {f : Fl} {c c8 : Nat} {w v : Int32} (h : GF f c c8) : HI f (ruF f w v) := by
  unfold ruF
  split
  · rename_i o
    obtain ⟨n, hn, e⟩ := nat60 (b := 9) (by decide) o.2
    exact HI.u (by omega) (by omega)
  · split
    · exact HI.u (by omega) (by omega)
    · split
      · rename_i o
        obtain ⟨n, hn, e⟩ := nat60 (b := 9) (by decide) o.2
        exact HI.u (by omega) (by omega)
      · exact HI.rf
theorem HI_wd {f : Fl} {n : Nat} {x : Int32} (hn : n ≤ 12) : HI f (wdF f n x) := by
  unfold wdF
  split
  · rename_i o
    have := o.2
    exact (HI.u (by omega) (by omega)).tr (HI.u (by omega) (by omega))
  · exact HI.rf
theorem HI_wk {f : Fl} {c c8 wk : Nat} {x : Int32} (hW : Wq f c c8) : HI f (wkF f wk x) := by
  unfold wkF
  split
  · intro k hk
    rcases hk with hk | hk
    · rw [hk, weks_keep (sty_lo (by decide)) (by decide) (by decide) (by decide) (by decide)]
    · exact weks_hi hk _ f hW
  · exact HI.rf
theorem HI_por {f ce : Fl} {a n : Nat} : ∀ r, r ≤ 12 → HI f (por f ce a n r).1
  | 0, _ => HI.rf
  | r + 1, hr => by
    have hp := HI_por (f := f) (ce := ce) (a := a) (n := n) r (by omega)
    by_cases e : r < n ∧ ¬ ce (24 * a + r) = -1000000005
    · rw [por_y e]
      exact hp.tr (HI.u (by omega) (by omega))
    · rw [por_n e]
      exact hp
theorem HI_po {f so si ce : Fl} {x : Int32} : HI f (poF f so si ce x) := by
  unfold poF
  split
  · split
    · exact HI.rf
    · exact HI_por 12 (Nat.le_refl _)
  · exact HI.rf
theorem txF_o {f : Fl} {t e q : Nat} {z : PZ} (h1 : q ≠ 8) (h2 : q ≠ 105 + 2 * t) (h3 : q ≠ 105 + 2 * t + 1) (h4 : ¬ (133 + 96 * t ≤ q ∧ q < 133 + 96 * t + zc z)) : txF f t e z q = f q := by
  unfold txF cpT
  rw [upd_ne h1]
  rw [if_neg h4, upd_ne h3, upd_ne h2]
theorem txF_k {f : Fl} {t e : Nat} {z : PZ} (ht : t < 14) : txF f t e z (105 + 2 * t) = nI (1000 * e + zc z) := by
  unfold txF cpT
  rw [upd_ne (by omega)]
  rw [if_neg (by omega), upd_ne (by omega), upd_eq, show (1000 : Int32) = nI 1000 from rfl, pk_mul, nI_add]
theorem txF_p {f : Fl} {t e : Nat} {z : PZ} (ht : t < 14) : txF f t e z (105 + 2 * t + 1) = nI (za z) := by
  unfold txF cpT
  rw [upd_ne (by omega)]
  rw [if_neg (by omega), upd_eq]
theorem txF_c {f : Fl} {t e k : Nat} {z : PZ} (hk : k < zc z) : txF f t e z (133 + 96 * t + k) = zcf z k := by
  unfold txF cpT
  rw [upd_ne (by omega)]
  rw [if_pos (by omega), show 133 + 96 * t + k - (133 + 96 * t) = k by omega]
theorem key_r {e c : Nat} (he : e < 3) (hc : c ≤ 96) : rm (nI (1000 * e + c)) 1000 = nI c := by
  rw [show (1000 : Int32) = nI 1000 from rfl, rm_nat (by omega) (by decide) (by decide), show (1000 * e + c) % 1000 = c by omega]
theorem key_d {e c : Nat} (he : e < 3) (hc : c ≤ 96) : nI (1000 * e + c) / 1000 = nI e := by
  rw [show (1000 : Int32) = nI 1000 from rfl, pk_div (by omega) (by decide) (by decide), show (1000 * e + c) / 1000 = e by omega]
/-- a text comes -/
theorem GF.tX {f : Fl} {c c8 e : Nat} {z : PZ} (h : GF f c c8) (h14 : c8 < 14) (he : e < 3) (hz : zc z ≤ 96) (hw : wfd (cdl (zcf z) (zc z)) 0 = true) (hv : VC (lim e) (zcf z) (zc z)) : GF (txF f c8 e z) c (c8 + 1) := by
  obtain ⟨⟨hq, hm, h3, h4⟩, ⟨n, hL⟩, hK, hU, hN, hzr⟩ := h
  have lo : ∀ q, q ≠ 8 → q < 105 → txF f c8 e z q = f q := fun q h8 hq => txF_o h8 (by omega) (by omega) (by omega)
  have old : ∀ t, t < c8 → txF f c8 e z (105 + 2 * t) = f (105 + 2 * t) := fun t ht => txF_o (by omega) (by omega) (by omega) (by omega)
  have oldc : ∀ t k, t < c8 → k < 96 → txF f c8 e z (133 + 96 * t + k) = f (133 + 96 * t + k) := fun t k ht hk => txF_o (by omega) (by omega) (by omega) (by omega)
  have ek := txF_k (f := f) (e := e) (z := z) h14
  refine ⟨⟨⟨(lo 1 (by decide) (by decide)).trans hq.1, hq.2.1, upd_eq, by omega, fun t ht => ?_, fun g hg => by rw [lo _ (by omega) (by omega)]; exact hq.2.2.2.2.2 g hg⟩, fun g hg => by rw [lo _ (by omega) (by omega)]; exact hm g hg, by rw [lo 3 (by decide) (by decide)]; exact h3, by rw [lo 4 (by decide) (by decide)]; exact h4⟩, ⟨n, by rw [lo 7 (by decide) (by decide)]; exact hL.1, hL.2.1, fun k hk => by have := hL.2.1; rw [lo _ (by omega) (by omega)]; exact hL.2.2 k hk⟩, fun g hg => by have := hq.2.1; rw [lo _ (by omega) (by omega)]; exact hK g hg, hU.cg (fun g hg => by have := hq.2.1; exact lo _ (by omega) (by omega)) ?_, fun t ht h0 k hk => ?_, fun q hq => by rw [txF_o (by omega) (by omega) (by omega) (by omega)]; exact hzr q hq⟩
  · by_cases e1 : t = c8
    · subst e1
      refine ⟨zc z, hz, by rw [ek]; exact key_r he hz, ?_⟩
      rw [show cod (txF f t e z) t (zc z) = cdl (zcf z) (zc z) from List.map_congr_left (fun k hk => txF_c (List.mem_range.mp hk))]
      exact hw
    · obtain ⟨m, hm, e2, e3⟩ := hq.2.2.2.2.1 t (by omega)
      refine ⟨m, hm, by rw [old t (by omega)]; exact e2, ?_⟩
      rw [show cod (txF f c8 e z) t m = cod f t m from List.map_congr_left (fun k hk => oldc t k (by omega) (by have := List.mem_range.mp hk; omega))]
      exact e3
  · have hcn : cn f = c := hq.cn
    have h12 := hq.2.1
    have ec : cn (txF f c8 e z) = cn f := by unfold cn; rw [lo 1 (by decide) (by decide)]
    unfold mny
    rw [ec]
    exact ctr_cong (fun g hg => by rw [lo _ (by omega) (by omega)])
  · by_cases e1 : t = c8
    · subst e1
      rw [ek, key_d he hz] at h0
      have hk2 : k < zc z := by
        unfold nco at hk
        rw [ek, key_r he hz, nI_clamp (by omega)] at hk
        exact hk
      have he0 : ¬ e = 0 := fun q => h0 (by rw [q]; rfl)
      rw [txF_c hk2]
      rcases hv k hk2 with q | q | q
      · have := q.2.1
        unfold lim at this
        rw [if_neg he0] at this
        exact this
      · rw [q.1]; decide
      · exact Int32.lt_trans (Int32.not_le.mp q.2.1) (by decide)
    · obtain ⟨m, hm, e2, e3⟩ := hq.2.2.2.2.1 t (by omega)
      have en : nco (txF f c8 e z) t = nco f t := by unfold nco; rw [old t (by omega)]
      rw [old t (by omega)] at h0
      rw [en] at hk
      have h96 : nco f t ≤ 96 := by unfold nco; rw [e2, nI_clamp (by omega)]; exact hm
      rw [oldc t k (by omega) (by omega)]
      exact hN t (by omega) h0 k hk
def txC (R : Bool × Nat × Nat × PZ) (c8 : Nat) : Nat := if R.1 = true ∧ ¬ c8 = 14 then c8 + 1 else c8
theorem GF.tx {f tp cf wf : Fl} {te : Nat → Bool} {c c8 n : Nat} (h : GF f c c8) (hn : n ≤ 96) : GF (txG f (txR tp n cf wf te) c8) c (txC (txR tp n cf wf te) c8) := by
  unfold txG txC
  by_cases o : (txR tp n cf wf te).1 = true ∧ ¬ c8 = 14
  · rw [if_pos o, if_pos o]
    obtain ⟨a, b, c1, d⟩ := txR_V hn o.1
    exact h.tX (by have := h.1.1.2.2.2.1; have := o.2; omega) a b c1 d
  · rw [if_neg o, if_neg o]
    exact h
