/-! THE PURE PART, 87: what always holds of a row: the weeks keep it -/
/-- who came when: no two at once, none later than as many as have come -/
def UC (f : Fl) (c : Nat) : Prop := UQ f c ∧ ∀ g, g < c → ∃ a, a ≤ mny f 12 ∧ f (45 + 5 * g + 4) = nI a
theorem UC.cg {f f' : Fl} {c : Nat} (h : UC f c) (h4 : ∀ g, g < c → f' (45 + 5 * g + 4) = f (45 + 5 * g + 4)) (hm : mny f' 12 = mny f 12) : UC f' c :=
  ⟨fun g q hg hq e n0 => h.1 g q hg hq (by rw [← h4 g hg, ← h4 q hq]; exact e) (by rw [← h4 g hg]; exact n0), fun g hg => by obtain ⟨a, ha, e⟩ := h.2 g hg; exact ⟨a, by rw [hm]; exact ha, by rw [h4 g hg]; exact e⟩⟩
theorem UC.u {f : Fl} {c k : Nat} {v : Int32} (h : UC f c) (hc : cn f = c) (n1 : k ≠ 1) (k3 : ∀ g, k = 45 + 5 * g + 3 → g < c → f k ≠ 12 ∧ v ≠ 12) (k4 : ∀ g, k = 45 + 5 * g + 4 → ¬ g < c) : UC (upd f k v) c := by
  refine h.cg (fun g hg => upd_ne (fun e => k4 g e.symm hg)) ?_
  unfold mny
  rw [cn_upd n1]
  refine ctr_cong (fun g hg => ?_)
  by_cases e : k = 45 + 5 * g + 3
  · obtain ⟨a, b⟩ := k3 g e (by omega)
    subst e
    rw [upd_eq, decide_eq_false b, decide_eq_false a]
  · rw [upd_ne (fun z => e z.symm)]
theorem UC.stp {f : Fl} {c g r : Nat} (h : UC f c) (hcn : cn f = c) (hc : c ≤ 12) (hg : g < c) (hr : f (45 + 5 * g + 3) = nI r) (h13 : r ≤ 13) : UC (stp f g).1 c := by
  obtain ⟨c1, c2, c3⟩ := stp_may hr h13
  haveI := mayLd f r
  by_cases hm : mayL f r
  · by_cases h11 : r = 11
    · rw [c2 hm h11]
      show UC (upd (upd f (45 + 5 * g + 4) (nI (mny f 12 + 1))) (45 + 5 * g + 3) (nI 12)) c
      have hM : mny f 12 ≤ 12 := by have := mny_le (f := f) (v := 12); omega
      have hmn : mny (upd (upd f (45 + 5 * g + 4) (nI (mny f 12 + 1))) (45 + 5 * g + 3) (nI 12)) 12 = mny f 12 + 1 := by
        have hz := mny_upd (f := upd f (45 + 5 * g + 4) (nI (mny f 12 + 1))) (j := g) (w := nI 12) (v := 12) (by rw [cn_upd (by omega)]; omega)
        rw [upd_ne (by omega), if_neg (show ¬ f (45 + 5 * g + 3) = 12 by rw [hr, h11]; decide), if_pos (show nI 12 = 12 from rfl), mny_oth (f := f) (k := 45 + 5 * g + 4) (by omega) (fun q => by omega)] at hz
        exact hz
      have key : ∀ p, p < c → (upd (upd f (45 + 5 * g + 4) (nI (mny f 12 + 1))) (45 + 5 * g + 3) (nI 12)) (45 + 5 * p + 4) = if p = g then nI (mny f 12 + 1) else f (45 + 5 * p + 4) := fun p hp => by
        rw [upd_ne (by omega)]
        by_cases e : p = g
        · rw [if_pos e, e, upd_eq]
        · rw [if_neg e, upd_ne (by omega)]
      have far : ∀ q, q < c → ¬ nI (mny f 12 + 1) = f (45 + 5 * q + 4) := fun q hq z => by
        obtain ⟨a, ha, e⟩ := h.2 q hq
        rw [e] at z
        have := (nI_eq (by omega) (by omega)).mp z
        omega
      refine ⟨fun p q hp hq e n0 => ?_, fun p hp => ?_⟩
      · rw [key p hp, key q hq] at e
        rw [key p hp] at n0
        by_cases ep : p = g
        · by_cases eq : q = g
          · rw [ep, eq]
          · rw [if_pos ep, if_neg eq] at e
            exact absurd e (far q hq)
        · by_cases eq : q = g
          · rw [if_neg ep, if_pos eq] at e
            exact absurd e.symm (far p hp)
          · rw [if_neg ep, if_neg eq] at e
            rw [if_neg ep] at n0
            exact h.1 p q hp hq e n0
      · rw [key p hp]
        by_cases ep : p = g
        · exact ⟨mny f 12 + 1, Nat.le_of_eq hmn.symm, if_pos ep⟩
        · obtain ⟨a, ha, e⟩ := h.2 p hp
          refine ⟨a, Nat.le_trans ha (by rw [hmn]; omega), ?_⟩
          rw [if_neg ep]
          exact e
    · rw [c3 hm h11]
      have h12 := hm.1
      refine h.u hcn (by omega) (fun q e _ => ⟨?_, fun z => absurd ((nI_eq (b := 12) (by omega) (by omega)).mp z) (by omega)⟩) (fun q e => by omega)
      rw [hr]
      exact fun z => absurd ((nI_eq (b := 12) (by omega) (by omega)).mp z) (by omega)
  · rw [c1 hm]
    exact h
theorem UC_gdn {c g : Nat} (hc : c ≤ 12) (hg : g < c) : ∀ (n : Nat) (f : Fl) (r : Nat), UC f c → cn f = c → f (45 + 5 * g + 3) = nI r → r ≤ 13 → UC (gdn g n f) c
  | 0, _, _, h, _, _, _ => h
  | n + 1, f, r, h, hcn, hr, h13 => by
    have hs := h.stp hcn hc hg hr h13
    rw [gdn]
    split
    · obtain ⟨q, hq, e⟩ := stp_rch hr h13
      refine UC_gdn hc hg n _ q hs ?_ e hq
      unfold cn
      rw [stp_keep (by omega) (by omega)]
      exact hcn
    · exact hs
theorem UC_rch {r : Int32} {c c8 : Nat} : ∀ (n : Nat) (f : Fl), n ≤ c → Wq f c c8 → UC f c → UC (rch r n f) c
  | 0, _, _, _, h => h
  | n + 1, f, hn, hW, h => by
    have hcn : cn f = c := hW.cn
    rw [rch_s]
    split
    · obtain ⟨q, hq, e⟩ := hW.2.2.2.2.2 (cn f - (n + 1)) (by have := hW.2.1; omega)
      exact UC_rch n _ (by omega) (hW.gdn (by have := hW.2.1; omega) _) (UC_gdn hW.2.1 (by omega) _ f q h hcn e hq)
    · exact UC_rch n f (by omega) hW h
theorem UC_rvr {c c8 : Nat} : ∀ (n : Nat) (f : Fl), Wq f c c8 → UC f c → UC (rvr n f) c
  | 0, _, _, h => h
  | n + 1, f, hW, h => by
    have hcn : cn f = c := hW.cn
    rw [rvr_s]
    exact UC_rvr n _ (Wq_rch _ f (by omega) hW) (UC_rch _ f (by omega) hW h)
theorem UC.lo {f : Fl} {c k : Nat} {v : Int32} (h : UC f c) (hc : cn f = c) (n1 : k ≠ 1) (hk : k < 45) : UC (upd f k v) c := h.u hc n1 (fun g e => by omega) (fun g e => by omega)
theorem UC.swg {f : Fl} {c : Nat} (h : UC f c) (hc : cn f = c) : UC (swg f) c := by
  rw [swg_u]
  dsimp only
  have h1 := h.lo (v := dz (f 0)) hc (k := 0) (by decide) (by decide)
  have c1 : cn (upd f 0 (dz (f 0))) = c := by rw [cn_upd (by decide)]; exact hc
  split
  · rename_i hlt
    have h2 := h1.lo (v := dz (dz (f 0))) c1 (k := 0) (by decide) (by decide)
    have c2 : cn (upd (upd f 0 (dz (f 0))) 0 (dz (dz (f 0)))) = c := by rw [cn_upd (by decide)]; exact c1
    split
    · refine UC.lo (k := 6) (h2.u c2 (by omega) (fun g e _ => ⟨?_, by decide⟩) (fun g e => by omega)) (by rw [cn_upd (by omega)]; exact c2) (by decide) (by decide)
      rw [upd_ne (by omega)]
      exact fun z => by rw [z] at hlt; exact absurd hlt (by decide)
    · exact h2
  · exact h1
theorem UC.wek {f : Fl} {c c8 : Nat} (hW : Wq f c c8) (h : UC f c) : UC (wek f) c := by
  have hw := hW.wk0
  have c0 : cn f = c := hW.cn
  have u0 : UC (wk0 f) c := UC.lo (k := 3) (h.lo (k := 0) c0 (by decide) (by decide)) (by rw [cn_upd (by decide)]; exact c0) (by decide) (by decide)
  have u1 : UC (wk1 f) c := UC_rvr 12 _ hw u0
  have w1 : Wq (wk1 f) c c8 := Wq_rvr 12 _ hw
  have u2 : UC (wk2 (wk1 f)) c := by
    rw [wk2_u]
    split
    · exact u1.swg w1.cn
    · exact u1
  have w2 : Wq (wk2 (wk1 f)) c c8 := w1.wk2
  exact UC.lo (k := 2) u2 w2.cn (by decide) (by decide)
theorem UC_weks {c c8 : Nat} : ∀ (n : Nat) (f : Fl), Wq f c c8 → UC f c → UC (weks n f) c
  | 0, _, _, h => h
  | n + 1, f, hW, h => UC_weks n (wek f) hW.wek (UC.wek hW h)
theorem wek_2 {f : Fl} : wek f 2 = f 2 + 1 := by
  show upd (wk2 (wk1 f)) 2 (wk2 (wk1 f) 2 + 1) 2 = _
  rw [upd_eq, wk2_keep (sty_lo (by decide)) (by decide) (by decide), wk1_keep (sty_lo (by decide))]
  show upd (upd f 0 _) 3 _ 2 + 1 = _
  rw [upd_ne (by decide), upd_ne (by decide)]
theorem weks_2 : ∀ (n : Nat) (f : Fl) (w : Nat), f 2 = nI w → weks n f 2 = nI (w + n)
  | 0, f, w, h => h
  | n + 1, f, w, h => by
    show weks n (wek f) 2 = _
    rw [weks_2 n (wek f) (w + 1) (by rw [wek_2, h, nI_1])]
    rw [show w + 1 + n = w + (n + 1) by omega]
/-- what always holds of a row -/
def GF (f : Fl) (c c8 : Nat) : Prop := Wr f c c8 ∧ (∃ n7, LL f n7) ∧ KD f c ∧ UC f c ∧ N2 f c8 ∧ ∀ q, 1477 ≤ q → f q = 0
theorem N2.cg {f f' : Fl} {c8 : Nat} (h : N2 f c8) (hf : ∀ k, 105 ≤ k → f' k = f k) : N2 f' c8 := fun t ht h0 k hk => by
  rw [hf _ (by omega)] at h0 ⊢
  refine h t ht h0 k ?_
  unfold nco at hk ⊢
  rw [hf _ (by omega)] at hk
  exact hk
theorem GF.weks {f : Fl} {c c8 : Nat} (h : GF f c c8) (n : Nat) : GF (weks n f) c c8 := by
  obtain ⟨hW, ⟨n7, hL⟩, hK, hU, hN, hz⟩ := h
  refine ⟨Wr.weks n f hW, ⟨n7, hL.weks n⟩, fun g hg => ?_, UC_weks n f hW.1 hU, hN.cg (fun k hk => weks_hi hk n f hW.1), fun q hq => by rw [weks_hi (by omega) n f hW.1]; exact hz q hq⟩
  rw [weks_keep (fun q => ⟨by omega, by omega⟩) (by omega) (by omega) (by omega) (by omega)]
  exact hK g hg
