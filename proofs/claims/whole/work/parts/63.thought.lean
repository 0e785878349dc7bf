/-! THE PURE PART, 44: what is only thought -/
section
variable {d i j : Nat}
/-- the row as it was is kept beside -/
def BE (s : Sn) (f : Fl) : Prop := ∀ k, k < 105 → s.1 (41, 3, 0) k = f k
theorem BE.fr {s t : Sn} {f : Fl} {X : List Rf} (h : BE s f) (hF : Fr X s t) (hX : ((41, 3, 0) : Rf) ∉ X) : BE t f := fun k hk => by rw [hF.1 _ hX]; exact h k hk
abbrev XW : List Rf := [(41, 0, 0), (41, 10, 0), (41, 11, 0)]
abbrev XB : List Rf := [(41, 0, 0), (41, 3, 0), (41, 10, 0), (41, 11, 0)]
theorem XW_B : ∀ r, r ∈ XW → r ∈ XB := by
  intro r h
  simp only [XW, XB, List.mem_cons, List.not_mem_nil, or_false] at h ⊢
  rcases h with h | h | h
  · exact Or.inl h
  · exact Or.inr (Or.inr (Or.inl h))
  · exact Or.inr (Or.inr (Or.inr h))
theorem X0_W : ∀ r, r ∈ [((41, 0, 0) : Rf)] → r ∈ XW := by
  intro r h
  rw [List.mem_singleton.mp h]
  decide
theorem X3_B : ∀ r, r ∈ [((41, 3, 0) : Rf)] → r ∈ XB := by
  intro r h
  rw [List.mem_singleton.mp h]
  decide
theorem l8_thinks {s : Sn} {f : Fl} (h0 : s.1 (41, 0, 0) = f) : ∀ k, k ≤ 105 → ∀ s1 : Sn, (∀ q, s1.1 (41, 3, 0) q = if q < k then s.1 (41, 0, 0) q else s.1 (41, 3, 0) q) → Fr [(41, 3, 0)] s s1 → Wp d MX8_thinks 2 [some (vR 40 0 0), some (vI (nI k))] [] (hN s1) (Pn fun t => BE t f ∧ Fr [(41, 3, 0)] s t) := by
  refine ind_up (fun k hk ih => ?_)
  intro s1 hq hF
  refine wp_iload_n dX8_thinks_2 rfl rfl ?_
  refine wp_bipush (v := 105) dX8_thinks_3 (by decide) rfl ?_
  refine wp_icmp_ge (t := 26) dX8_thinks_5 rfl rfl (fun h5 => ?_) (fun h5 => ?_)
  · refine wp_ret dX8_thinks_26 rfl ?_
    have hk2 : k = 105 := by have := (nI_leI (a := 105) (by omega) (by omega)).mp h5; omega
    subst hk2
    exact ⟨_, rfl, rfl, fun q hq2 => by rw [hq q, if_pos hq2, h0], hF⟩
  · have hl : k < 105 := by have := mt (nI_leI (a := 105) (by omega) (by omega)).mpr h5; omega
    refine wp_aload_n dX8_thinks_8 rfl rfl ?_
    refine wn_getR dX8_thinks_9 fRX8_19 o40 rfl rfl rfl ?_
    refine wp_iload_n dX8_thinks_12 rfl rfl ?_
    refine wp_aload_n dX8_thinks_13 rfl rfl ?_
    refine wn_getR dX8_thinks_14 fRX8_9 o40 rfl rfl rfl ?_
    refine wp_iload_n dX8_thinks_17 rfl rfl ?_
    refine wn_iald dX8_thinks_18 (o41 0 rfl) rfl (nIx rfl (by omega)) (show k < mln.getD 0 0 from Nat.lt_of_lt_of_le hl (by decide)) rfl ?_
    rw [hF.1 (41, 0, 0) (by decide)]
    refine wn_iast dX8_thinks_19 (o41 3 rfl) rfl (nIx rfl (by omega)) (show k < mln.getD 3 0 from Nat.lt_of_lt_of_le hl (by decide)) rfl ?_
    refine wp_iinc (l' := [_, some _]) (v := 1) dX8_thinks_20 rfl (by decide) rfl rfl ?_
    refine wp_goto (t := 2) dX8_thinks_23 rfl ?_
    rw [nI_1]
    refine ih hl _ (fun q => ?_) (hF.pt (by decide))
    rw [sI_row]
    by_cases e : q = k
    · rw [e, upd_eq, if_pos (by omega)]
    · rw [upd_ne e, hq q]
      by_cases e2 : q < k
      · rw [if_pos e2, if_pos (by omega)]
      · rw [if_neg e2, if_neg (by omega)]
theorem c8_thinks {s : Sn} {f : Fl} (h0 : s.1 (41, 0, 0) = f) : Ca d MX8_thinks [vR 40 0 0] (hN s) (Pn fun t => BE t f ∧ Fr [(41, 3, 0)] s t) := by
  change Wp _ _ 0 [some _, none] [] _ _
  refine wp_iconst (v := 0) dX8_thinks_0 (by decide) rfl ?_
  refine wp_istore_n (l' := [_, some _]) dX8_thinks_1 rfl rfl ?_
  exact l8_thinks h0 0 (Nat.zero_le _) s (fun q => (if_neg (Nat.not_lt_zero q)).symm) Fr.rf
theorem l8_putsBack {s : Sn} {f : Fl} (h0 : BE s f) (h1 : ∀ k, 105 ≤ k → s.1 (41, 0, 0) k = f k) : ∀ k, k ≤ 105 → ∀ s1 : Sn, (∀ q, s1.1 (41, 0, 0) q = if q < k then s.1 (41, 3, 0) q else s.1 (41, 0, 0) q) → Fr [(41, 0, 0)] s s1 → Wp d MX8_putsBack 2 [some (vR 40 0 0), some (vI (nI k))] [] (hN s1) (Pn fun t => t.1 (41, 0, 0) = f ∧ Fr [(41, 0, 0)] s t) := by
  refine ind_up (fun k hk ih => ?_)
  intro s1 hq hF
  refine wp_iload_n dX8_putsBack_2 rfl rfl ?_
  refine wp_bipush (v := 105) dX8_putsBack_3 (by decide) rfl ?_
  refine wp_icmp_ge (t := 26) dX8_putsBack_5 rfl rfl (fun h5 => ?_) (fun h5 => ?_)
  · refine wp_ret dX8_putsBack_26 rfl ?_
    have hk2 : k = 105 := by have := (nI_leI (a := 105) (by omega) (by omega)).mp h5; omega
    subst hk2
    refine ⟨_, rfl, rfl, ?_, hF⟩
    funext q
    rw [hq q]
    by_cases e : q < 105
    · rw [if_pos e]; exact h0 q e
    · rw [if_neg e]; exact h1 q (by omega)
  · have hl : k < 105 := by have := mt (nI_leI (a := 105) (by omega) (by omega)).mpr h5; omega
    refine wp_aload_n dX8_putsBack_8 rfl rfl ?_
    refine wn_getR dX8_putsBack_9 fRX8_9 o40 rfl rfl rfl ?_
    refine wp_iload_n dX8_putsBack_12 rfl rfl ?_
    refine wp_aload_n dX8_putsBack_13 rfl rfl ?_
    refine wn_getR dX8_putsBack_14 fRX8_19 o40 rfl rfl rfl ?_
    refine wp_iload_n dX8_putsBack_17 rfl rfl ?_
    refine wn_iald dX8_putsBack_18 (o41 3 rfl) rfl (nIx rfl (by omega)) (show k < mln.getD 3 0 from Nat.lt_of_lt_of_le hl (by decide)) rfl ?_
    rw [hF.1 (41, 3, 0) (by decide)]
    refine wn_iast dX8_putsBack_19 (o41 0 rfl) rfl (nIx rfl (by omega)) (show k < mln.getD 0 0 from Nat.lt_of_lt_of_le hl (by decide)) rfl ?_
    refine wp_iinc (l' := [_, some _]) (v := 1) dX8_putsBack_20 rfl (by decide) rfl rfl ?_
    refine wp_goto (t := 2) dX8_putsBack_23 rfl ?_
    rw [nI_1]
    refine ih hl _ (fun q => ?_) (hF.pt (by decide))
    rw [sI_row]
    by_cases e : q = k
    · rw [e, upd_eq, if_pos (by omega)]
    · rw [upd_ne e, hq q]
      by_cases e2 : q < k
      · rw [if_pos e2, if_pos (by omega)]
      · rw [if_neg e2, if_neg (by omega)]
theorem c8_putsBack {s : Sn} {f : Fl} (h0 : BE s f) (h1 : ∀ k, 105 ≤ k → s.1 (41, 0, 0) k = f k) : Ca d MX8_putsBack [vR 40 0 0] (hN s) (Pn fun t => t.1 (41, 0, 0) = f ∧ Fr [(41, 0, 0)] s t) := by
  change Wp _ _ 0 [some _, none] [] _ _
  refine wp_iconst (v := 0) dX8_putsBack_0 (by decide) rfl ?_
  refine wp_istore_n (l' := [_, some _]) dX8_putsBack_1 rfl rfl ?_
  exact l8_putsBack h0 h1 0 (Nat.zero_le _) s (fun q => (if_neg (Nat.not_lt_zero q)).symm) Fr.rf
theorem weks_hi {c c8 k : Nat} (hk : 105 ≤ k) : ∀ (n : Nat) (f : Fl), Wq f c c8 → weks n f k = f k
  | 0, f, h => rfl
  | n + 1, f, h => (weks_hi hk n (wek f) h.wek).trans (wek_hi h hk)
theorem weks_keep {k : Nat} (hk : sty k) (h0 : k ≠ 0) (h2 : k ≠ 2) (h3 : k ≠ 3) (h6 : k ≠ 6) : ∀ (n : Nat) (f : Fl), weks n f k = f k
  | 0, f => rfl
  | n + 1, f => (weks_keep hk h0 h2 h3 h6 n (wek f)).trans (wek_keep hk h0 h2 h3 h6)
theorem weks_add : ∀ (a b : Nat) (f : Fl), weks b (weks a f) = weks (a + b) f
  | 0, b, f => by rw [Nat.zero_add]; rfl
  | a + 1, b, f => by rw [Nat.succ_add]; exact weks_add a b (wek f)
/-- a word of letters -/
def LL (f : Fl) (n : Nat) : Prop := f 7 = nI n ∧ n ≤ 12 ∧ ∀ k, k < n → ∃ x, x < 26 ∧ f (9 + k) = nI x
theorem LL.cg {f f' : Fl} {n : Nat} (h : LL f n) (hf : ∀ k, 7 ≤ k → k < 21 → f' k = f k) : LL f' n := ⟨by rw [hf 7 (by decide) (by decide)]; exact h.1, h.2.1, fun k hk => by have := h.2.1; rw [hf (9 + k) (by omega) (by omega)]; exact h.2.2 k hk⟩
theorem LL.weks {f : Fl} {n : Nat} (h : LL f n) (m : Nat) : LL (weks m f) n := h.cg (fun k h7 h21 => weks_keep (sty_lo (by omega)) (by omega) (by omega) (by omega) (by omega) m f)
theorem c8_comeBehind {s : Sn} {f : Fl} {c c8 n : Nat} (hB : BE s f) (hW : Wq (s.1 (41, 0, 0)) c c8) (hh : ∀ k, 105 ≤ k → s.1 (41, 0, 0) k = f k) (hn : n < 1000) : Ca (d + 6) MX8_comeBehind [vR 40 0 0, vI (nI n)] (hN s) (Pv fun y t => y = nI (mny (weks n (s.1 (41, 0, 0))) 12) ∧ t.1 (41, 0, 0) = f ∧ Fr XW s t) := by
  change Wp _ _ 0 [some _, some _, none] [] _ _
  refine wp_aload_n dX8_comeBehind_0 rfl rfl ?_
  refine wp_iload_n dX8_comeBehind_1 rfl rfl ?_
  refine wn_callV1n dX8_comeBehind_2 rRX8_146 (rcv_of o40 rfl) (Nat.le_of_ble_eq_true rfl) rfl (Nat.le_of_ble_eq_true rfl) rfl (c8_goesOn hn hW) (fun s2 hq2 => ?_)
  obtain ⟨e2, hF2⟩ := hq2
  have hW2 := Wq.weks n _ hW
  have hp : ∀ k, 105 ≤ k → s2.1 (41, 0, 0) k = f k := fun k hk => by rw [e2, weks_hi hk n _ hW]; exact hh k hk
  refine wp_aload_n dX8_comeBehind_5 rfl rfl ?_
  refine wp_bipush (v := 12) dX8_comeBehind_6 (by decide) rfl ?_
  refine wn_callV1d dX8_comeBehind_8 rRX8_133 (rcv_of o40 rfl) (Nat.le_of_ble_eq_true rfl) rfl (Nat.le_of_ble_eq_true rfl) rfl (c8_manyAt (c := c) hW.2.1 (by rw [e2]; exact hW2.1)) ?_
  refine wp_istore_n (l' := [_, _, some _]) dX8_comeBehind_11 rfl rfl ?_
  refine wp_aload_n dX8_comeBehind_12 rfl rfl ?_
  refine wn_callV0n dX8_comeBehind_13 rRX8_159 (rcv_of o40 rfl) (Nat.le_of_ble_eq_true rfl)  (Nat.le_of_ble_eq_true rfl) rfl (c8_putsBack (hB.fr hF2 (by decide)) hp) (fun s13 hq13 => ?_)
  obtain ⟨e13, hF13⟩ := hq13
  refine wp_iload_n dX8_comeBehind_16 rfl rfl ?_
  refine wp_iret dX8_comeBehind_17 rfl rfl ?_
  exact ⟨_, _, rfl, rfl, by rw [e2], e13, hF2.tr (hF13.wd X0_W)⟩
theorem c8_speltBehind {s : Sn} {f : Fl} {c c8 n n7 : Nat} (hB : BE s f) (hW : Wq (s.1 (41, 0, 0)) c c8) (hh : ∀ k, 105 ≤ k → s.1 (41, 0, 0) k = f k) (hn : n < 1000) (hL : LL (s.1 (41, 0, 0)) n7) : Ca (d + 6) MX8_speltBehind [vR 40 0 0, vI (nI n)] (hN s) (Pv fun y t => y = nI (spl (weks n (s.1 (41, 0, 0))) n7 c 26) ∧ t.1 (41, 0, 0) = f ∧ Fr XW s t) := by
  change Wp _ _ 0 [some _, some _, none] [] _ _
  refine wp_aload_n dX8_speltBehind_0 rfl rfl ?_
  refine wp_iload_n dX8_speltBehind_1 rfl rfl ?_
  refine wn_callV1n dX8_speltBehind_2 rRX8_146 (rcv_of o40 rfl) (Nat.le_of_ble_eq_true rfl) rfl (Nat.le_of_ble_eq_true rfl) rfl (c8_goesOn hn hW) (fun s2 hq2 => ?_)
  obtain ⟨e2, hF2⟩ := hq2
  have hW2 := Wq.weks n _ hW
  have hp : ∀ k, 105 ≤ k → s2.1 (41, 0, 0) k = f k := fun k hk => by rw [e2, weks_hi hk n _ hW]; exact hh k hk
  refine wp_aload_n dX8_speltBehind_5 rfl rfl ?_
  refine wn_callV0d dX8_speltBehind_6 rRX8_150 (rcv_of o40 rfl) (Nat.le_of_ble_eq_true rfl)  (Nat.le_of_ble_eq_true rfl) rfl (c8_spelt hL.2.1 (by rw [e2]; exact (hL.weks n).1) (c := c) hW.2.1 (by rw [e2]; exact hW2.1)) ?_
  refine wp_istore_n (l' := [_, _, some _]) dX8_speltBehind_9 rfl rfl ?_
  refine wp_aload_n dX8_speltBehind_10 rfl rfl ?_
  refine wn_callV0n dX8_speltBehind_11 rRX8_159 (rcv_of o40 rfl) (Nat.le_of_ble_eq_true rfl)  (Nat.le_of_ble_eq_true rfl) rfl (c8_putsBack (hB.fr hF2 (by decide)) hp) (fun s11 hq11 => ?_)
  obtain ⟨e13, hF13⟩ := hq11
  refine wp_iload_n dX8_speltBehind_14 rfl rfl ?_
  refine wp_iret dX8_speltBehind_15 rfl rfl ?_
  exact ⟨_, _, rfl, rfl, by rw [e2], e13, hF2.tr (hF13.wd X0_W)⟩
/-- which cells, and which rivers' laws, may have changed -/
def FW (X : Rf → Prop) (I : Nat → Prop) (s t : Sn) : Prop := (∀ r, ¬ X r → t.1 r = s.1 r) ∧ (∀ a, ¬ I a → t.2.1 a = s.2.1 a) ∧ t.2.2 = s.2.2
theorem FW.rf {X : Rf → Prop} {I : Nat → Prop} {s : Sn} : FW X I s s := ⟨fun _ _ => rfl, fun _ _ => rfl, rfl⟩
theorem FW.tr {X : Rf → Prop} {I : Nat → Prop} {a b c : Sn} (h1 : FW X I a b) (h2 : FW X I b c) : FW X I a c := ⟨fun r hr => (h2.1 r hr).trans (h1.1 r hr), fun r hr => (h2.2.1 r hr).trans (h1.2.1 r hr), h2.2.2.trans h1.2.2⟩
theorem FW.wd {X Y : Rf → Prop} {I J : Nat → Prop} {a b : Sn} (h : FW X I a b) (hs : ∀ r, X r → Y r) (hi : ∀ r, I r → J r) : FW Y J a b := ⟨fun r hr => h.1 r (fun z => hr (hs r z)), fun r hr => h.2.1 r (fun z => hr (hi r z)), h.2.2⟩
theorem FQ.fw {X : Rf → Prop} {I : Nat → Prop} {a b : Sn} (h : FQ X a b) : FW X I a b := ⟨h.1, fun _ _ => by rw [h.2], by rw [h.2]⟩
theorem FW.pt {X : Rf → Prop} {I : Nat → Prop} {a b : Sn} {r : Rf} {k : Nat} {v : Int32} (h : FW X I a b) (hr : X r) : FW X I a (sI b r k v) := ⟨fun z hz => (sI_nr (fun e => hz (by rw [e]; exact hr))).trans (h.1 z hz), h.2⟩
/-- a river of the class, with its laws, stands for a row -/
def RVL (s : Sn) (i : Nat) (f : Fl) (c c8 : Nat) : Prop := RV s i f c ∧ LwR s i f c8 ∧ ∀ t, t < 14 → ∀ n, s.2.1 i t = some n → n < s.2.2.2.1
theorem RVL.cg {s t : Sn} {X : Rf → Prop} {I : Nat → Prop} {f : Fl} {c c8 : Nat} (h : RVL s i f c c8) (hF : FW X I s t) (hX : ∀ r, X r → ¬ (r.2.1 = i ∧ (r.1 = 11 ∨ r.1 = 17 ∨ r.1 = 14 ∨ r.1 = 15 ∨ r.1 = 12)) ∧ ¬ (r.1 = 34 ∨ r.1 = 35)) (hI : ¬ I i) : RVL t i f c c8 := by
  refine ⟨⟨h.1.1.cg (fun r h1 h2 => hF.1 r (fun hx => (hX r hx).1 ⟨h1, h2⟩)) (fun _ _ => rfl), by rw [hF.1 (11, i, 0) (fun hx => (hX _ hx).1 ⟨rfl, Or.inl rfl⟩)]; exact h.1.2.1, h.1.2.2⟩, fun u hu => ?_, fun u hu n hn => ?_⟩
  · obtain ⟨n, h1, h3, h4⟩ := h.2.1 u hu
    exact ⟨n, by rw [hF.2.1 i hI]; exact h1, by rw [hF.2.2]; exact h3, h4.cg (hF.1 _ (fun hx => (hX _ hx).2 (Or.inl rfl))) (hF.1 _ (fun hx => (hX _ hx).2 (Or.inr rfl))) (by rw [hF.2.2]) (fun _ _ => rfl)⟩
  · rw [hF.2.2]
    exact h.2.2 u hu n (by rw [← hF.2.1 i hI]; exact hn)
/-- the rivers in which is thought, and the rows on which laws are worked out -/
def XQ : Rf → Prop := fun r => r.1 = 36 ∨ (2 ≤ r.2.1 ∧ (r.1 = 11 ∨ r.1 = 17 ∨ r.1 = 14 ∨ r.1 = 15 ∨ r.1 = 12 ∨ r.1 = 16))
def FH (s t : Sn) : Prop := FW XQ (fun a => 2 ≤ a) s t
theorem FH.rf {s : Sn} : FH s s := FW.rf
theorem FH.tr {a b c : Sn} (h1 : FH a b) (h2 : FH b c) : FH a c := FW.tr h1 h2
theorem RVL.fh {s t : Sn} {f : Fl} {c c8 : Nat} (h : RVL s i f c c8) (hF : FH s t) (hi : i < 2) : RVL t i f c c8 := h.cg hF (fun r hx => ⟨fun z => by
    rcases hx with hx | hx
    · rw [hx] at z; exact absurd z.2 (by decide)
    · omega, fun z => by
    rcases hx with hx | hx
    · omega
    · omega⟩) (by omega)
theorem XR_Q (hi : 2 ≤ i) : ∀ r, XR i r → XQ r := fun r h => by
  rcases h with h | h
  · exact Or.inl h
  · refine Or.inr ⟨by omega, ?_⟩
    rcases h.2 with h | h | h
    · exact Or.inl h
    · exact Or.inr (Or.inr (Or.inr (Or.inr (Or.inl h))))
    · exact Or.inr (Or.inr (Or.inr (Or.inr (Or.inr h))))
theorem XT_Q (hi : 2 ≤ i) : ∀ r, XT i r → XQ r := fun r h => Or.inr ⟨by have := h.1; omega, by
    rcases h.2 with h | h | h | h | h
    · exact Or.inl h
    · exact Or.inr (Or.inl h)
    · exact Or.inr (Or.inr (Or.inl h))
    · exact Or.inr (Or.inr (Or.inr (Or.inl h)))
    · exact Or.inr (Or.inr (Or.inr (Or.inr (Or.inl h))))⟩
theorem c3_takes {s : Sn} {f : Fl} {c c8 : Nat} (hi : i < 4) (hj : j < 4) (hij : i ≠ j) (h : RVL s j f c c8) (hc8 : c8 ≤ 14) : Ca (d + 1) MX3_takeOver [vR 11 i 0, vR 11 j 0] (hN s) (Pn fun t => RVL t i f c c8 ∧ FW (XT i) (fun a => a = i) s t) := by
  refine (c3_takeOver hi hj hij h.2.2).conseq ?_
  rintro v σ ⟨t, rfl, rfl, q11, q14, q15, q17, q12, hX, h2⟩
  have e2 : t.2.2 = s.2.2 := by rw [h2]; rfl
  refine ⟨t, rfl, rfl, ⟨⟨tk_RC h.1.1 q11 q14 q15 q17 q12, by rw [q11 13 (by decide) (by decide)]; exact h.1.2.1, h.1.2.2⟩, tk_Lw h.2.1 hc8 hX h2, fun u hu n hn => ?_⟩, hX, fun a ha => ?_, e2⟩
  · rw [e2]
    refine h.2.2 u hu n ?_
    rw [h2] at hn
    exact (if_pos (⟨rfl, hu⟩ : i = i ∧ u < 14)).symm.trans hn
  · rw [h2]
    funext b
    exact if_neg (fun z => ha z.1)
theorem c3_weeksQ {s : Sn} {f : Fl} {c c8 n : Nat} (hi : i < 4) (h2 : 2 ≤ i) (hn : n < 1000) (h : RVL s i f c c8) (hW : Wr f c c8) : Ca (d + 5) MX3_passWeeks [vR 11 i 0, vI (nI n)] (hN s) (Pn fun t => RVL t i (weks n f) c c8 ∧ FH s t) := by
  refine (c3_passWeeks hi hn h.1 hW h.2.1).conseq ?_
  rintro v σ ⟨t, rfl, rfl, ⟨hV, hL⟩, hF⟩
  exact ⟨t, rfl, rfl, ⟨hV, hL, by rw [hF.2]; exact h.2.2⟩, hF.fw.wd (XR_Q h2) (fun r z => z)⟩
theorem c3_weekQ {s : Sn} {f : Fl} {c c8 : Nat} (hi : i < 4) (h2 : 2 ≤ i) (h : RVL s i f c c8) (hW : Wr f c c8) : Ca (d + 4) MX3_passWeek [vR 11 i 0] (hN s) (Pn fun t => RVL t i (wek f) c c8 ∧ FH s t) := by
  refine (c3_passWeek hi h.1 hW h.2.1).conseq ?_
  rintro v σ ⟨t, rfl, rfl, ⟨hV, hL⟩, hF⟩
  exact ⟨t, rfl, rfl, ⟨hV, hL, by rw [hF.2]; exact h.2.2⟩, hF.fw.wd (XR_Q h2) (fun r z => z)⟩
theorem c7_startThought {s : Sn} {f : Fl} {c c8 : Nat} (h : RVL s 0 f c c8) (hc8 : c8 ≤ 14) : Ca (d + 2) MX7_startThought [vR 10 0 0] (hN s) (Pn fun t => RVL t 2 f c c8 ∧ FH s t) := by
  change Wp _ _ 0 [some _] [] _ _
  refine wp_aload_n dX7_startThought_0 rfl rfl ?_
  refine wn_getR dX7_startThought_1 fRX7_19 o10 rfl rfl rfl ?_
  refine wp_aload_n dX7_startThought_4 rfl rfl ?_
  refine wn_getR dX7_startThought_5 fRX7_10 o10 rfl rfl rfl ?_
  refine wn_callV1n dX7_startThought_8 rRX7_200 (rcv_of (o11 (by decide)) rfl) (Nat.le_of_ble_eq_true rfl) rfl (Nat.le_of_ble_eq_true rfl) rfl (c3_takes (by decide) (by decide) (by decide) h hc8) (fun s8 hq8 => ?_)
  obtain ⟨h8, hF8⟩ := hq8
  refine wp_ret dX7_startThought_11 rfl ?_
  exact ⟨_, rfl, rfl, h8, hF8.wd (XT_Q (by decide)) (fun r z => by omega)⟩
end
