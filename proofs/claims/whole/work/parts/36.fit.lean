/-! THE PURE PART, 24: a week of the class: what it needs of a row -/
section
variable {d i : Nat}
theorem hld_wth (v : Int32) : hld v 0 12 = wth v 0 12 := by
  unfold hld wth
  by_cases h0 : v < 0
  · have h12 : v < 12 := Int32.lt_trans h0 (by decide)
    rw [if_pos h0, if_pos h12, if_neg (fun z => absurd (Int32.lt_trans h0 z) (Int32.lt_irrefl))]
  · rw [if_neg h0]
    obtain ⟨k, hk, rfl⟩ := nI_of h0
    by_cases h1 : nI k < 12
    · have hk12 := (nI_ltI (b := 12) hk (by omega)).mp h1
      rw [if_pos h1, if_neg (show ¬ (12 : Int32) < nI k from fun z => absurd ((nI_ltI (a := 12) (by omega) hk).mp z) (by omega))]
      by_cases h2 : 0 < nI k
      · rw [if_pos h2]
      · rw [if_neg h2]
        have : k = 0 := by have := mt (nI_ltI (a := 0) (by omega) hk).mpr h2; omega
        rw [this]; rfl
    · have hk12 := mt (nI_ltI (b := 12) hk (by omega)).mpr h1
      rw [if_neg h1, if_pos (by decide)]
      by_cases h2 : (12 : Int32) < nI k
      · rw [if_pos h2]
      · rw [if_neg h2]
        have : k = 12 := by have := mt (nI_ltI (a := 12) (by omega) hk).mpr h2; omega
        rw [this]; rfl
theorem wth12 (x : Int32) : ∃ m, m ≤ 12 ∧ wth x 0 12 = nI m := by
  unfold wth
  by_cases h0 : x < 0
  · rw [if_pos h0]; exact ⟨0, by omega, rfl⟩
  · rw [if_neg h0]
    obtain ⟨k, hk, rfl⟩ := nI_of h0
    by_cases h1 : (12 : Int32) < nI k
    · rw [if_pos h1]; exact ⟨12, by omega, rfl⟩
    · rw [if_neg h1]
      exact ⟨k, by have := mt (nI_ltI (a := 12) (by omega) hk).mpr h1; omega, rfl⟩
theorem kdc_kdr {K fl : Int32} {m : Nat} (hm : m ≤ 12) : kdc K fl (nI m) = kdr K fl (nI m) := by
  have e4 : (if nI m + 1 < 3 then nI m + 1 else 3) = wth (nI m + 1) 0 3 := by
    unfold wth
    rw [nI_1, if_neg (nI_pos (by omega))]
    by_cases h1 : nI (m + 1) < 3
    · have := (nI_ltI (b := 3) (by omega) (by omega)).mp h1
      rw [if_pos h1, if_neg (show ¬ (3 : Int32) < nI (m + 1) from fun z => absurd ((nI_ltI (a := 3) (by omega) (by omega)).mp z) (by omega))]
    · have h2 := mt (nI_ltI (b := 3) (by omega) (by omega)).mpr h1
      rw [if_neg h1]
      by_cases h3 : (3 : Int32) < nI (m + 1)
      · rw [if_pos h3]
      · rw [if_neg h3]
        have : m + 1 = 3 := by have := mt (nI_ltI (a := 3) (by omega) (by omega)).mpr h3; omega
        rw [this]; rfl
  unfold kdc kdr
  rw [e4]
theorem max12 : ∀ a, a < 10 → ∀ b, b < 10 → (if (0 : Int32) < nI a - nI b then nI a - nI b else 0) = wth (nI a - nI b) 0 12 := by decide
theorem max9 : ∀ a, a < 10 → ∀ b, b < 10 → (if (0 : Int32) < nI a - nI b then nI a - nI b else 0) = wth (nI a - nI b) 0 9 := by decide
theorem wth9 : ∀ a, a < 10 → ∀ b, b < 10 → ∃ fl, fl < 10 ∧ wth (nI a - nI b) 0 9 = nI fl := by decide
theorem tn_of {f : Fl} {c8 : Nat} (h8 : f 8 = nI c8) (hc : c8 ≤ 14) : tn f = c8 := by unfold tn; rw [h8, nI_clamp (by omega)]
theorem drf_none {f : Fl} {c8 g : Nat} (h8 : f 8 = nI c8) (hc : c8 ≤ 14) (hn : cts f 0 c8 = none) : drf f g = kdr (f (45 + 5 * g + 0)) (f 3) (wth (f 3 - f (45 + 5 * g + 2) / 10) 0 12) := by
  unfold drf pln
  rw [tn_of h8 hc, hn]
theorem drf_some {f : Fl} {c8 g t : Nat} (h8 : f 8 = nI c8) (hc : c8 ≤ 14) (hn : cts f 0 c8 = some t) : drf f g = kdr (f (45 + 5 * g + 0)) (f 3) (wth (evT f t (fa3 (f 3) (f (45 + 5 * g + 2)) (f (45 + 5 * g + 3)))) 0 12) := by
  unfold drf pln
  rw [tn_of h8 hc, hn]
/-- fit for the class's weeks -/
def Wr (f : Fl) (c c8 : Nat) : Prop := Wq f c c8 ∧ (∀ g, g < 12 → ∃ m, m ≤ 50 ∧ f (45 + 5 * g + 2) = nI m) ∧ (∃ fl, fl < 10 ∧ f 3 = nI fl) ∧ ∃ dr, dr < 10 ∧ f 4 = nI dr
theorem Wr.keep {f f' : Fl} {c c8 : Nat} (h : Wr f c c8) (hq : Wq f' c c8) (h2 : ∀ g, g < 12 → f' (45 + 5 * g + 2) = f (45 + 5 * g + 2)) (h3 : f' 3 = f 3) (h4 : f' 4 = f 4) : Wr f' c c8 := ⟨hq, fun g hg => by rw [h2 g hg]; exact h.2.1 g hg, by rw [h3]; exact h.2.2.1, by rw [h4]; exact h.2.2.2⟩
theorem cts_cong {f f' : Fl} {key : Int32} (h : ∀ k, 105 ≤ k → f' k = f k) : ∀ c, cts f' key c = cts f key c
  | 0 => rfl
  | c + 1 => by rw [cts, cts, h _ (by omega), cts_cong h c]
/-- a place of a row that going down the river leaves alone -/
def sty (k : Nat) : Prop := ∀ g, k ≠ 45 + 5 * g + 3 ∧ k ≠ 45 + 5 * g + 4
theorem rch_keep {r : Int32} {k : Nat} (hk : sty k) : ∀ (n : Nat) (f : Fl), rch r n f k = f k
  | 0, f => rfl
  | n + 1, f => by
    rw [rch_s, rch_keep hk n]
    split
    · exact gdn_keep (hk _).1 (hk _).2 _ _
    · rfl
theorem rvr_keep {k : Nat} (hk : sty k) : ∀ (n : Nat) (f : Fl), rvr n f k = f k
  | 0, f => rfl
  | n + 1, f => by rw [rvr_s, rvr_keep hk n, rch_keep hk]
theorem sty_lo {k : Nat} (h : k < 45) : sty k := fun g => ⟨by omega, by omega⟩
theorem swg_keep {f : Fl} {k : Nat} (hk : sty k) (h0 : k ≠ 0) (h6 : k ≠ 6) : swg f k = f k := by
  rw [swg_u]
  dsimp only
  split
  · split
    · rw [upd_ne h6, upd_ne (hk _).1, upd_ne h0, upd_ne h0]
    · rw [upd_ne h0, upd_ne h0]
  · rw [upd_ne h0]
theorem wk2_keep {f : Fl} {k : Nat} (hk : sty k) (h0 : k ≠ 0) (h6 : k ≠ 6) : wk2 f k = f k := by
  rw [wk2_u]
  split
  · exact swg_keep hk h0 h6
  · rfl
theorem wek_keep {f : Fl} {k : Nat} (hk : sty k) (h0 : k ≠ 0) (h2 : k ≠ 2) (h3 : k ≠ 3) (h6 : k ≠ 6) : wek f k = f k := by
  show upd (wk2 (wk1 f)) 2 _ k = f k
  rw [upd_ne h2, wk2_keep hk h0 h6]
  show rvr 12 (wk0 f) k = f k
  rw [rvr_keep hk]
  show upd (upd f 0 _) 3 _ k = f k
  rw [upd_ne h3, upd_ne h0]
theorem wk1_keep {f : Fl} {k : Nat} (hk : sty k) : wk1 f k = wk0 f k := rvr_keep hk 12 _
theorem wek_3 {f : Fl} : wek f 3 = wk0 f 3 := by
  show upd (wk2 (wk1 f)) 2 _ 3 = _
  rw [upd_ne (by decide), wk2_keep (sty_lo (by decide)) (by decide) (by decide), wk1_keep (sty_lo (by decide))]
theorem sty_m {g : Nat} : sty (45 + 5 * g + 2) := fun q => ⟨by omega, by omega⟩
theorem gdn_cn {f : Fl} {g n : Nat} : cn (gdn g n f) = cn f := by unfold cn; rw [gdn_keep (by omega) (by omega)]
theorem rch_cn {r : Int32} {f : Fl} {n : Nat} : cn (rch r n f) = cn f := by unfold cn; rw [rch_keep (sty_lo (by decide))]
theorem rch_hi {r : Int32} {k : Nat} (hk : 105 ≤ k) : ∀ (n : Nat) (f : Fl), cn f ≤ 12 → rch r n f k = f k
  | 0, f, _ => rfl
  | n + 1, f, hc => by
    rw [rch_s]
    split
    · rw [rch_hi hk n _ (by rw [gdn_cn]; exact hc)]
      exact gdn_keep (by omega) (by omega) _ _
    · exact rch_hi hk n f hc
theorem rvr_hi {k : Nat} (hk : 105 ≤ k) : ∀ (n : Nat) (f : Fl), cn f ≤ 12 → rvr n f k = f k
  | 0, f, _ => rfl
  | n + 1, f, hc => by rw [rvr_s, rvr_hi hk n _ (by rw [rch_cn]; exact hc), rch_hi hk _ _ hc]
theorem swg_hi {f : Fl} {c c8 k : Nat} (h : Wq f c c8) (h0 : 0 < c) (hk : 105 ≤ k) : swg f k = f k := by
  obtain ⟨k1, hk1, e1⟩ := dv_nat (dz (f 0))
  have hg : (rm (dv (dz (f 0))) (f 1)).toNatClampNeg = k1 % c := by
    rw [e1, h.1, rm_nat (by omega) h0 (by have := h.2.1; omega), nI_clamp (by have := Nat.mod_lt k1 h0; have := h.2.1; omega)]
  have hlt : k1 % c < 12 := by have := Nat.mod_lt k1 h0; have := h.2.1; omega
  rw [swg_u]
  dsimp only
  rw [hg]
  split
  · split
    · rw [upd_ne (by omega), upd_ne (by omega), upd_ne (by omega), upd_ne (by omega)]
    · rw [upd_ne (by omega), upd_ne (by omega)]
  · rw [upd_ne (by omega)]
theorem wk2_hi {f : Fl} {c c8 k : Nat} (h : Wq f c c8) (hk : 105 ≤ k) : wk2 f k = f k := by
  rw [wk2_u]
  split
  · rename_i hc
    refine swg_hi h ?_ hk
    have h2 := hc.2
    rw [h.1] at h2
    exact (nI_ltI (a := 0) (by omega) (by have := h.2.1; omega)).mp h2
  · rfl
theorem wek_hi {f : Fl} {c c8 k : Nat} (h : Wq f c c8) (hk : 105 ≤ k) : wek f k = f k := by
  show upd (wk2 (wk1 f)) 2 _ k = f k
  have hw := h.wk0
  have hc : cn (wk0 f) ≤ 12 := by have e : cn (wk0 f) = c := hw.cn; rw [e]; exact h.2.1
  rw [upd_ne (by omega), wk2_hi (f := wk1 f) (Wq_rvr 12 _ hw) hk]
  show rvr 12 (wk0 f) k = f k
  rw [rvr_hi hk 12 _ hc]
  show upd (upd f 0 _) 3 _ k = f k
  rw [upd_ne (by omega), upd_ne (by omega)]
theorem Wr.gdn {f : Fl} {c c8 g : Nat} (h : Wr f c c8) (hg : g < 12) (n : Nat) : Wr (gdn g n f) c c8 := h.keep (h.1.gdn hg n) (fun q hq => gdn_keep (by omega) (by omega) n f) (gdn_keep (by omega) (by omega) n f) (gdn_keep (by omega) (by omega) n f)
theorem Wr.rch {f : Fl} {c c8 n : Nat} {r : Int32} (h : Wr f c c8) (hn : n ≤ c) : Wr (rch r n f) c c8 := h.keep (Wq_rch n f hn h.1) (fun q hq => rch_keep sty_m n f) (rch_keep (sty_lo (by decide)) n f) (rch_keep (sty_lo (by decide)) n f)
theorem Wr.wk0 {f : Fl} {c c8 : Nat} (h : Wr f c c8) : Wr (wk0 f) c c8 := by
  obtain ⟨hq, hm, _, dr, hdr, e4⟩ := h
  refine ⟨hq.wk0, fun g hg => ?_, ?_, dr, hdr, ?_⟩
  · obtain ⟨m, h1, h2⟩ := hm g hg
    exact ⟨m, h1, by show upd (upd f 0 _) 3 _ _ = _; rw [upd_ne (by omega), upd_ne (by omega)]; exact h2⟩
  · obtain ⟨k1, hk1, e1⟩ := dv_nat (dz (f 0))
    obtain ⟨fl, h1, h2⟩ := wth9 (k1 % 10) (Nat.mod_lt _ (by decide)) dr hdr
    refine ⟨fl, h1, ?_⟩
    show upd (upd f 0 _) 3 _ 3 = _
    rw [upd_eq, e1, e4, show (10 : Int32) = nI 10 from rfl, rm_nat (by omega) (by decide) (by omega)]
    exact h2
  · show upd (upd f 0 _) 3 _ 4 = _
    rw [upd_ne (by decide), upd_ne (by decide)]; exact e4
theorem Wr.wek {f : Fl} {c c8 : Nat} (h : Wr f c c8) : Wr (wek f) c c8 := by
  refine ⟨h.1.wek, fun g hg => ?_, ?_, ?_⟩
  · rw [wek_keep sty_m (by omega) (by omega) (by omega) (by omega)]; exact h.2.1 g hg
  · rw [wek_3]; exact h.wk0.2.2.1
  · rw [wek_keep (sty_lo (by decide)) (by decide) (by decide) (by decide) (by decide)]; exact h.2.2.2
end
