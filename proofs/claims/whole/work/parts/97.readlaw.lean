/-! THE PURE PART, 78: the class's reader reads to the end -/
section
variable {d : Nat}
/-- where the last word ended, as both know it -/
def EN (tp : Fl) (k : Nat) (en : Int32) : Prop := 1 ≤ k ∧ (∃ e0, e0 ≤ k ∧ en = nI e0) ∧ (¬ srt (tp (k - 1)) = 0 ↔ nI k = en)
theorem EN.f {tp : Fl} {n k : Nat} {en : Int32} (hn : n ≤ 96) (h : EN tp k en) (hk : k ≤ n) : ¬ srt (tp (gF tp n k - 1)) = 0 ↔ nI (gF tp n k) = en := by
  have hg := gF_le (tp := tp) hk
  by_cases e : gF tp n k = k
  · rw [e]; exact h.2.2
  · obtain ⟨e0, h0, e1⟩ := h.2.1
    have hs : pS tp n (gF tp n k - 1) = true := run_in (n - k) k _ (by omega) (by show gF tp n k - 1 < gF tp n k; omega)
    have h32 := (of_decide_eq_true hs).2
    rw [h32, e1]
    constructor
    · intro q; exact absurd (by decide) q
    · intro q
      have := (nI_eq (by omega) (by omega)).mp q
      omega
theorem EN.n {tp : Fl} {n k f : Nat} {en : Int32} (hn : n ≤ 96) (h : EN tp k en) (hkf : k ≤ f) (hf : f < n) : EN tp (gN tp n f) (gE tp n f en) := by
  have hne : ¬ f = n := by omega
  have hg := gN_le (tp := tp) (n := n) (f := f) (by omega)
  have hlt := hg.2.2 hf
  obtain ⟨e0, h0, e1⟩ := h.2.1
  refine ⟨by omega, ?_, ?_⟩
  · by_cases hw : isL tp n f ∨ isF tp n f
    · exact ⟨gN tp n f, Nat.le_refl _, by unfold gE; rw [if_neg hne, if_pos hw]⟩
    · exact ⟨e0, by omega, by unfold gE; rw [if_neg hne, if_neg hw]; exact e1⟩
  · by_cases hL : isL tp n f
    · have hm : pL tp n (gN tp n f - 1) = true := run_in (n - f) f _ (by omega) (by rw [← gN_L hne hL]; omega)
      have h1 := srt_1.mpr (of_decide_eq_true hm).2
      rw [h1, gE, if_neg hne, if_pos (Or.inl hL)]
      exact ⟨fun _ => rfl, fun _ => by decide⟩
    · by_cases hF : isF tp n f
      · have hm : pF tp n (gN tp n f - 1) = true := run_in (n - f) f _ (by omega) (by rw [← gN_F hne hL hF]; omega)
        have h2 := (of_decide_eq_true hm).2
        rw [srt_2.mpr ⟨lf_no h2, h2⟩, gE, if_neg hne, if_pos (Or.inr hF)]
        exact ⟨fun _ => rfl, fun _ => by decide⟩
      · have hgs := gN_S hne hL hF
        have h0s : srt (tp f) = 0 := srt_0 (fun q => hL ⟨hf, srt_1.mp q⟩) (fun q => hF ⟨hf, (srt_2.mp q).2⟩)
        rw [hgs, show f + 1 - 1 = f by omega, h0s, gE, if_neg hne, if_neg (fun q => q.elim hL hF), e1]
        constructor
        · intro q; exact absurd rfl q
        · intro q
          have := (nI_eq (by omega) (by omega)).mp q
          omega
theorem CR.bg {z : PZ} {s t : Sn} (h : CR z s) (hc : CW t (stl (zwf z) 6 (zh z) (zcf z) (zc z)).1 (stl (zwf z) 6 (zh z) (zcf z) (zc z)).2.1 (zwf z) (stl (zwf z) 6 (zh z) (zcf z) (zc z)).2.2) (h9 : t.1 (20, 0, 0) 9 = nI (nts (zwf z) (stl (zwf z) 6 (zh z) (zcf z) (zc z)).2.2)) (ho : ∀ q, q ≠ 4 → q ≠ 5 → q ≠ 9 → t.1 (20, 0, 0) q = s.1 (20, 0, 0) q) : CR (sz z 6) t := by
  obtain ⟨a1, a2, a3, a4, a5, m, a6, a7⟩ := h
  exact ⟨hc, (ho 7 (by decide) (by decide) (by decide)).trans a2, (ho 8 (by decide) (by decide) (by decide)).trans a3, h9, (ho 11 (by decide) (by decide) (by decide)).trans a5, m, a6, (ho 10 (by decide) (by decide) (by decide)).trans a7⟩
theorem TT.fr {s t : Sn} (h : TT s) (hF : Fr XC3 s t) : TT t := by
  have hb : ∀ u g, SB s u g → SB t u g := fun u g q => ⟨by rw [hF.1 (2, u, 0) (fun z => by simp only [XC3, List.mem_cons, List.not_mem_nil, or_false, Prod.mk.injEq] at z; omega)]; exact q.1, fun k hk => by rw [hF.1 (3, u, 0) (fun z => by simp only [XC3, List.mem_cons, List.not_mem_nil, or_false, Prod.mk.injEq] at z; omega)]; exact q.2 k hk⟩
  exact ⟨hb _ _ h.1, hb _ _ h.2.1, hb _ _ h.2.2.1, hb _ _ h.2.2.2.1, hb _ _ h.2.2.2.2.1, hb _ _ h.2.2.2.2.2⟩
theorem CR.nx {z : PZ} {s t : Sn} {a b : Int32} (h : CR z s) (e : t.1 (20, 0, 0) = upd (upd (s.1 (20, 0, 0)) 12 a) 13 b) (hF : Fr [(20, 0, 0)] s t) : CR z t := by
  obtain ⟨a1, a2, a3, a4, a5, m, a6, a7⟩ := h
  have ho : ∀ q, q ≠ 12 → q ≠ 13 → t.1 (20, 0, 0) q = s.1 (20, 0, 0) q := fun q h1 h2 => by rw [e, upd_ne h2, upd_ne h1]
  exact ⟨a1.cg (ho 4 (by decide) (by decide)) (ho 5 (by decide) (by decide)) (hF.1 _ (by decide)) (hF.1 _ (by decide)), (ho 7 (by decide) (by decide)).trans a2, (ho 8 (by decide) (by decide)).trans a3, (ho 9 (by decide) (by decide)).trans a4, (ho 11 (by decide) (by decide)).trans a5, m, a6, (ho 10 (by decide) (by decide)).trans a7⟩
/-- the class has read a law -/
def LD (s0 : Sn) (r : Bool × Nat × PZ) (kk : Nat) (t : Sn) : Prop := CW t (zcf r.2.2) (zc r.2.2) (zwf r.2.2) (zh r.2.2) ∧ t.1 (20, 0, 0) 7 = nI (za r.2.2) ∧ t.1 (20, 0, 0) 6 = nI kk ∧ Fr XC3 s0 t
theorem l2_read {s0 : Sn} {tp : Fl} {n kk : Nat} {P : Option Av → St → Prop} {R0 : Bool × Nat × PZ} (hn : n ≤ 96) (hT : TP s0 tp n) (hQ : TQ tp) (hX : TT s0) (hk3 : kk < 3) (kS : R0.1 = true → ∀ (s2 : Sn) (c1 : Int32), LD s0 R0 kk s2 → Wp (d + 7) MX2_readLaw 109 [some (vR 20 0 0), some (vI c1)] [] (hN s2) P) (kN : R0.1 = false → ∀ s2 : Sn, s2.1 (20, 0, 0) 3 = nI R0.2.1 → Fr XC3 s0 s2 → P (some (.inr (.inr none))) (hN s2)) : ∀ (m i k : Nat) (en : Int32) (z : PZ) (s1 : Sn), (plp (nI kk) tp n m (gF tp n k) en z) = R0 → n + 1 ≤ gF tp n k + m → k ≤ n → i ≤ k → EN tp k en → CR z s1 → IV k z → SV (zwf z) (zh z) → s1.1 (20, 0, 0) 13 = nI k → s1.1 (20, 0, 0) 6 = nI kk → Fr XC3 s0 s1 → Wp (d + 7) MX2_readLaw 30 [some (vR 20 0 0), some (vI (nI i))] [] (hN s1) P := by
  intro m
  induction m with
  | zero => intro i k en z s1 _ hm hk; have := (gF_le (tp := tp) hk).2; omega
  | succ m ih =>
    intro i k en z s1 hR hm hk hik hE h hI hV e13 e6 hF
    have hg := gF_le (tp := tp) hk
    obtain ⟨f, ef⟩ : ∃ f, gF tp n k = f := ⟨_, rfl⟩
    have hTs := hT.fr hF (by decide) (by decide)
    have hXs := hX.fr hF
    have hI1 := hI.1
    have hp8 := hI.2.2.1
    refine wp_iload_n dX2_readLaw_30 rfl rfl ?_
    refine wp_bipush (v := 96) dX2_readLaw_31 (by decide) rfl ?_
    refine wp_icmp_ge (t := 77) dX2_readLaw_33 rfl rfl (fun h33 => ?_) (fun h33 => ?_)
    · have efn : gF tp n k = n := by have := (nI_leI (a := 96) (by decide) (by omega)).mp h33; omega
      by_cases hw : zwt z = true
      · refine wp_aload_n dX2_readLaw_77 rfl rfl ?_
        refine wn_getI dX2_readLaw_78 fRX2_50 o20 rfl rfl ?_
        rw [h.2.2.2.2.1]
        refine wp_if_ne (t := 91) dX2_readLaw_81 rfl rfl (fun h81 => ?_) (fun h81 => absurd (bI_0.mp h81) (fun q => q hw))
        refine wp_aload_n dX2_readLaw_91 rfl rfl ?_
        refine wp_aload_n dX2_readLaw_92 rfl rfl ?_
        refine wn_getR dX2_readLaw_93 fRX2_12 o20 rfl rfl rfl ?_
        refine wn_getI dX2_readLaw_96 fRX2_76 o21 rfl rfl ?_
        rw [(hT.fr hF (by decide) (by decide)).1]
        refine wn_putI dX2_readLaw_99 fRX2_25 o20 rfl rfl rfl ?_
        refine wp_null dX2_readLaw_102 rfl ?_
        refine wp_aret dX2_readLaw_103 rfl rfl ?_
        have e3 : (sI s1 (20, 0, 0) 3 (nI n)).1 (20, 0, 0) 3 = nI R0.2.1 := by rw [sI_row, upd_eq, ← hR, plp_n (fun q => absurd (hw.symm.trans q.1) (by decide)) (by rw [efn, gT_n]; exact pst_0 hw), efn]
        exact kN (by rw [← hR, plp_n (fun q => absurd (hw.symm.trans q.1) (by decide)) (by rw [efn, gT_n]; exact pst_0 hw), efn]) _ e3 (hF.pt (by decide))
      · have hw0 : zwt z = false := Bool.eq_false_iff.mpr hw
        by_cases hz : zp z = 0
        · refine wp_aload_n dX2_readLaw_77 rfl rfl ?_
          refine wn_getI dX2_readLaw_78 fRX2_50 o20 rfl rfl ?_
          rw [h.2.2.2.2.1]
          refine wp_if_ne (t := 91) dX2_readLaw_81 rfl rfl (fun h81 => absurd h81 (fun q => q (bI_0.mpr hw))) (fun h81 => ?_)
          refine wp_aload_n dX2_readLaw_84 rfl rfl ?_
          refine wn_getI dX2_readLaw_85 fRX2_41 o20 rfl rfl ?_
          rw [h.2.2.1]
          refine wp_if_le (t := 104) dX2_readLaw_88 rfl rfl (fun h88 => ?_) (fun h88 => absurd (by rw [hz]; decide) h88)
          refine wp_aload_n dX2_readLaw_104 rfl rfl ?_
          refine wp_iconst (v := 1) dX2_readLaw_105 (by decide) rfl ?_
          refine wn_callV1n dX2_readLaw_106 rRX2_79 (rcv_of o20 rfl) (Nat.le_of_ble_eq_true rfl) rfl (Nat.le_of_ble_eq_true rfl) rfl (c2_closeDownTo (ls := 0) (by decide) lx_0 h.1 hV hI.2.2.2.1 (hI.2.2.2.2 hw0) (by omega)) (fun s106 hq106 => ?_)
          obtain ⟨c106, o106, hF106⟩ := hq106
          refine kS (by rw [← hR, plp_e ⟨hw0, by rw [efn]; exact gT_n⟩, efn]; exact decide_eq_true hz) _ _ ?_
          rw [← hR, plp_e ⟨hw0, by rw [efn]; exact gT_n⟩, efn]
          exact ⟨c106, (o106 7 (by decide) (by decide)).trans h.2.1, (o106 6 (by decide) (by decide)).trans e6, hF.tr hF106⟩
        · refine wp_aload_n dX2_readLaw_77 rfl rfl ?_
          refine wn_getI dX2_readLaw_78 fRX2_50 o20 rfl rfl ?_
          rw [h.2.2.2.2.1]
          refine wp_if_ne (t := 91) dX2_readLaw_81 rfl rfl (fun h81 => absurd h81 (fun q => q (bI_0.mpr hw))) (fun h81 => ?_)
          refine wp_aload_n dX2_readLaw_84 rfl rfl ?_
          refine wn_getI dX2_readLaw_85 fRX2_41 o20 rfl rfl ?_
          rw [h.2.2.1]
          refine wp_if_le (t := 104) dX2_readLaw_88 rfl rfl (fun h88 => absurd ((nI_leI (b := 0) (by omega) (by decide)).mp h88) (by omega)) (fun h88 => ?_)
          refine wp_aload_n dX2_readLaw_91 rfl rfl ?_
          refine wp_aload_n dX2_readLaw_92 rfl rfl ?_
          refine wn_getR dX2_readLaw_93 fRX2_12 o20 rfl rfl rfl ?_
          refine wn_getI dX2_readLaw_96 fRX2_76 o21 rfl rfl ?_
          rw [(hT.fr hF (by decide) (by decide)).1]
          refine wn_putI dX2_readLaw_99 fRX2_25 o20 rfl rfl rfl ?_
          refine wp_null dX2_readLaw_102 rfl ?_
          refine wp_aret dX2_readLaw_103 rfl rfl ?_
          have e3 : (sI s1 (20, 0, 0) 3 (nI n)).1 (20, 0, 0) 3 = nI R0.2.1 := by rw [sI_row, upd_eq, ← hR, plp_e ⟨hw0, by rw [efn]; exact gT_n⟩, efn]
          exact kN (by rw [← hR, plp_e ⟨hw0, by rw [efn]; exact gT_n⟩, efn]; exact decide_eq_false hz) _ e3 (hF.pt (by decide))
    · refine wp_aload_n dX2_readLaw_36 rfl rfl ?_
      refine wn_callV0i dX2_readLaw_37 rRX2_63 (rcv_of o20 rfl) (Nat.le_of_ble_eq_true rfl)  (Nat.le_of_ble_eq_true rfl) rfl (c2_nextWord hn hTs hQ hk e13) (fun x37 s37 hq37 => ?_)
      obtain ⟨e37, g37, hF37⟩ := hq37
      subst e37
      refine wp_if_eq_b (t := 77) dX2_readLaw_40 rfl rfl (fun h40 => ?_) (fun h40 => ?_)
      · have efn : gF tp n k = n := by omega
        have h37 := h.nx g37 hF37
        have hF37b := hF.tr (hF37.wd (by decide))
        have e637 : s37.1 (20, 0, 0) 6 = nI kk := by rw [g37, upd_ne (by decide), upd_ne (by decide)]; exact e6
        by_cases hw : zwt z = true
        · refine wp_aload_n dX2_readLaw_77 rfl rfl ?_
          refine wn_getI dX2_readLaw_78 fRX2_50 o20 rfl rfl ?_
          rw [h37.2.2.2.2.1]
          refine wp_if_ne (t := 91) dX2_readLaw_81 rfl rfl (fun h81 => ?_) (fun h81 => absurd (bI_0.mp h81) (fun q => q hw))
          refine wp_aload_n dX2_readLaw_91 rfl rfl ?_
          refine wp_aload_n dX2_readLaw_92 rfl rfl ?_
          refine wn_getR dX2_readLaw_93 fRX2_12 o20 rfl rfl rfl ?_
          refine wn_getI dX2_readLaw_96 fRX2_76 o21 rfl rfl ?_
          rw [(hT.fr hF37b (by decide) (by decide)).1]
          refine wn_putI dX2_readLaw_99 fRX2_25 o20 rfl rfl rfl ?_
          refine wp_null dX2_readLaw_102 rfl ?_
          refine wp_aret dX2_readLaw_103 rfl rfl ?_
          have e3 : (sI s37 (20, 0, 0) 3 (nI n)).1 (20, 0, 0) 3 = nI R0.2.1 := by rw [sI_row, upd_eq, ← hR, plp_n (fun q => absurd (hw.symm.trans q.1) (by decide)) (by rw [efn, gT_n]; exact pst_0 hw), efn]
          exact kN (by rw [← hR, plp_n (fun q => absurd (hw.symm.trans q.1) (by decide)) (by rw [efn, gT_n]; exact pst_0 hw), efn]) _ e3 (hF37b.pt (by decide))
        · have hw0 : zwt z = false := Bool.eq_false_iff.mpr hw
          by_cases hz : zp z = 0
          · refine wp_aload_n dX2_readLaw_77 rfl rfl ?_
            refine wn_getI dX2_readLaw_78 fRX2_50 o20 rfl rfl ?_
            rw [h37.2.2.2.2.1]
            refine wp_if_ne (t := 91) dX2_readLaw_81 rfl rfl (fun h81 => absurd h81 (fun q => q (bI_0.mpr hw))) (fun h81 => ?_)
            refine wp_aload_n dX2_readLaw_84 rfl rfl ?_
            refine wn_getI dX2_readLaw_85 fRX2_41 o20 rfl rfl ?_
            rw [h37.2.2.1]
            refine wp_if_le (t := 104) dX2_readLaw_88 rfl rfl (fun h88 => ?_) (fun h88 => absurd (by rw [hz]; decide) h88)
            refine wp_aload_n dX2_readLaw_104 rfl rfl ?_
            refine wp_iconst (v := 1) dX2_readLaw_105 (by decide) rfl ?_
            refine wn_callV1n dX2_readLaw_106 rRX2_79 (rcv_of o20 rfl) (Nat.le_of_ble_eq_true rfl) rfl (Nat.le_of_ble_eq_true rfl) rfl (c2_closeDownTo (ls := 0) (by decide) lx_0 h37.1 hV hI.2.2.2.1 (hI.2.2.2.2 hw0) (by omega)) (fun s106 hq106 => ?_)
            obtain ⟨c106, o106, hF106⟩ := hq106
            refine kS (by rw [← hR, plp_e ⟨hw0, by rw [efn]; exact gT_n⟩, efn]; exact decide_eq_true hz) _ _ ?_
            rw [← hR, plp_e ⟨hw0, by rw [efn]; exact gT_n⟩, efn]
            exact ⟨c106, (o106 7 (by decide) (by decide)).trans h37.2.1, (o106 6 (by decide) (by decide)).trans e637, hF37b.tr hF106⟩
          · refine wp_aload_n dX2_readLaw_77 rfl rfl ?_
            refine wn_getI dX2_readLaw_78 fRX2_50 o20 rfl rfl ?_
            rw [h37.2.2.2.2.1]
            refine wp_if_ne (t := 91) dX2_readLaw_81 rfl rfl (fun h81 => absurd h81 (fun q => q (bI_0.mpr hw))) (fun h81 => ?_)
            refine wp_aload_n dX2_readLaw_84 rfl rfl ?_
            refine wn_getI dX2_readLaw_85 fRX2_41 o20 rfl rfl ?_
            rw [h37.2.2.1]
            refine wp_if_le (t := 104) dX2_readLaw_88 rfl rfl (fun h88 => absurd ((nI_leI (b := 0) (by omega) (by decide)).mp h88) (by omega)) (fun h88 => ?_)
            refine wp_aload_n dX2_readLaw_91 rfl rfl ?_
            refine wp_aload_n dX2_readLaw_92 rfl rfl ?_
            refine wn_getR dX2_readLaw_93 fRX2_12 o20 rfl rfl rfl ?_
            refine wn_getI dX2_readLaw_96 fRX2_76 o21 rfl rfl ?_
            rw [(hT.fr hF37b (by decide) (by decide)).1]
            refine wn_putI dX2_readLaw_99 fRX2_25 o20 rfl rfl rfl ?_
            refine wp_null dX2_readLaw_102 rfl ?_
            refine wp_aret dX2_readLaw_103 rfl rfl ?_
            have e3 : (sI s37 (20, 0, 0) 3 (nI n)).1 (20, 0, 0) 3 = nI R0.2.1 := by rw [sI_row, upd_eq, ← hR, plp_e ⟨hw0, by rw [efn]; exact gT_n⟩, efn]
            exact kN (by rw [← hR, plp_e ⟨hw0, by rw [efn]; exact gT_n⟩, efn]; exact decide_eq_false hz) _ e3 (hF37b.pt (by decide))
      · have hfn : gF tp n k < n := h40
        have hcond : ¬ (zwt z = false ∧ gT tp n (gF tp n k) en = 0) := fun q => gT_p hfn q.2
        have hgn := gN_le (tp := tp) hg.2
        have hlt := hgn.2.2 hfn
        have h37 := h.nx g37 hF37
        have hF37b := hF.tr (hF37.wd (by decide))
        have e637 : s37.1 (20, 0, 0) 6 = nI kk := by rw [g37, upd_ne (by decide), upd_ne (by decide)]; exact e6
        have e1237 : s37.1 (20, 0, 0) 12 = nI (gF tp n k) := by rw [g37, upd_ne (by decide), upd_eq]
        have e1337 : s37.1 (20, 0, 0) 13 = nI (gN tp n (gF tp n k)) := by rw [g37, upd_eq]
        refine wp_aload_n dX2_readLaw_43 rfl rfl ?_
        refine wn_callV0i dX2_readLaw_44 rRX2_70 (rcv_of o20 rfl) (Nat.le_of_ble_eq_true rfl)  (Nat.le_of_ble_eq_true rfl) rfl (c2_goesOn (en := en) hn (hT.fr hF37b (by decide) (by decide)) hQ (hX.fr hF37b) e637 hk3 e1237 e1337 (by have := hE.1; omega) hfn (fun _ => hE.f hn hk) h37 (hI.le hg.1) hV) (fun x44 s44 hq44 => ?_)
        cases hp : pst (nI kk) (gT tp n (gF tp n k) en) (gV tp n (gF tp n k) 0) (gN tp n (gF tp n k) - gF tp n k) z with
        | none =>
          obtain ⟨e44, e44s⟩ := hq44.1 hp
          subst e44
          rw [e44s]
          refine wp_if_ne (t := 60) dX2_readLaw_47 rfl rfl (fun h47 => absurd rfl h47) (fun h47 => ?_)
          refine wp_aload_n dX2_readLaw_50 rfl rfl ?_
          refine wp_aload_n dX2_readLaw_51 rfl rfl ?_
          refine wn_getI dX2_readLaw_52 fRX2_54 o20 rfl rfl ?_
          rw [e1237]
          refine wn_putI dX2_readLaw_55 fRX2_25 o20 rfl rfl rfl ?_
          refine wp_null dX2_readLaw_58 rfl ?_
          refine wp_aret dX2_readLaw_59 rfl rfl ?_
          exact kN (by rw [← hR, plp_n hcond hp]) _ (by rw [sI_row, upd_eq, ← hR, plp_n hcond hp]) (hF37b.pt (by decide))
        | some z2 =>
          obtain ⟨e44, z1, q1, q2, q3, q4, hz2⟩ := hq44.2 z2 hp
          subst e44
          have hF44 := hF37b.tr q2.2
          have e1344 : s44.1 (20, 0, 0) 13 = nI (gN tp n (gF tp n k)) := (q2.1 13 (Or.inr (Or.inr (Or.inr rfl)))).trans e1337
          have e644 : s44.1 (20, 0, 0) 6 = nI kk := (q2.1 6 (Or.inl rfl)).trans e637
          have hE2 := hE.n hn hg.1 hfn
          have hgf2 := gF_le (tp := tp) (n := n) (k := gN tp n (gF tp n k)) hgn.2.1
          refine wp_if_ne (t := 60) dX2_readLaw_47 rfl rfl (fun h47 => ?_) (fun h47 => absurd h47 (by decide))
          refine wp_aload_n dX2_readLaw_60 rfl rfl ?_
          refine wn_getI dX2_readLaw_61 fRX2_50 o20 rfl rfl ?_
          rw [q1.2.2.2.2.1]
          refine wp_if_ne (t := 71) dX2_readLaw_64 rfl rfl (fun h64 => ?_) (fun h64 => ?_)
          · refine wp_iinc (l' := [_, some _]) (v := 1) dX2_readLaw_71 rfl (by decide) rfl rfl ?_
            refine wp_goto (t := 30) dX2_readLaw_74 rfl ?_
            have hz1 : zwt z1 = true := Decidable.not_not.mp (fun q => h64 (bI_0.mpr q))
            rw [if_pos hz1] at hz2
            have hps : plp (nI kk) tp n (m + 1) (gF tp n k) en z = plp (nI kk) tp n m (gF tp n (gN tp n (gF tp n k))) (gE tp n (gF tp n k) en) z2 := plp_s hcond hp
            subst hz2
            rw [nI_1]
            exact ih (i + 1) (gN tp n (gF tp n k)) _ _ s44 (hps.symm.trans hR) (by omega) hgn.2.1 (by omega) hE2 q1 ((pst_I (hI.le hg.1) hp).le (by omega)) q3 e1344 e644 hF44
          · refine wp_aload_n dX2_readLaw_67 rfl rfl ?_
            refine wn_callV0n dX2_readLaw_68 rRX2_73 (rcv_of o20 rfl) (Nat.le_of_ble_eq_true rfl)  (Nat.le_of_ble_eq_true rfl) rfl (l2_bang (s := s44) (zh z1) (zcf z1) (zc z1) s44 q1.1 q3 (by omega) q1.2.2.2.1 (fun _ _ _ _ => rfl) Fr.rf) (fun s68 hq68 => ?_)
            obtain ⟨b1, b2, b3, b4⟩ := hq68
            refine wp_iinc (l' := [_, some _]) (v := 1) dX2_readLaw_71 rfl (by decide) rfl rfl ?_
            refine wp_goto (t := 30) dX2_readLaw_74 rfl ?_
            have hz1 : ¬ zwt z1 = true := bI_0.mp h64
            rw [if_neg hz1] at hz2
            have hps : plp (nI kk) tp n (m + 1) (gF tp n k) en z = plp (nI kk) tp n m (gF tp n (gN tp n (gF tp n k))) (gE tp n (gF tp n k) en) z2 := plp_s hcond hp
            subst hz2
            rw [nI_1]
            exact ih (i + 1) (gN tp n (gF tp n k)) _ _ s68 (hps.symm.trans hR) (by omega) hgn.2.1 (by omega) hE2 (q1.bg b1 b2 b3) ((pst_I (hI.le hg.1) hp).le (by omega)) (q3.le (stl_c (zh z1) (zcf z1) (zc z1)).2.1) ((b3 13 (by decide) (by decide) (by decide)).trans e1344) ((b3 6 (by decide) (by decide) (by decide)).trans e644) (hF44.tr b4)
end
