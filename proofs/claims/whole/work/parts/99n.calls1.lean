/-! THE PURE PART, 94: calls that change the river -/
theorem k_log {d : Nat} {s : Sn} {a1 a2 a3 : Int32} (hI : INV s) : SB2 d MX7_log MX8_log [vI a1, vI a2, vI a3] s := by
  obtain ⟨⟨⟨f, c, c8, wk⟩, h, ⟨g, ci, ci8, wi⟩, ⟨so, si, ce⟩, T, ⟨te, kt⟩, ⟨tp, nt⟩⟩, hC, hR, hP⟩ := hI
  obtain ⟨c1, c2, c3, c4, c5, c6, c7, c9, ca⟩ := id hC
  obtain ⟨⟨hG, h2, hwk⟩, ⟨hG1, h21, hwi⟩, hSQ, hCQ, hHQ, hkt, hTQ, hnt⟩ := id hP
  obtain ⟨hW, ⟨n7, hL⟩, hKD, hUC, hN2, hz⟩ := id hG
  dsimp only at c1 c2 c3 c4 c5 c6 c7 hG h2 hwk hG1 h21 hwi hSQ hCQ hHQ hkt hTQ hnt hW hL hKD hUC hN2 hz
  refine step2 (A := lgA c a1 a2 a3) (D' := ((lgF f c a1 a2 a3, lgC c a1 a2 a3, c8, wk), h, (g, ci, ci8, wi), (so, si, ce), T, (te, kt), (tp, nt))) hR ?_ (fun t hR => ?_) ?_
  · refine (c7_log (d := d + 6) c1.1).to (fun v σ hv => ?_)
    obtain ⟨y, t, rfl, rfl, ey, hV, hF⟩ := hv
    have hK := hF.kp XR_k
    exact ⟨y, t, rfl, rfl, ey, hC.k1 hK (by decide) (by decide) (c1.hi hV hF XR_34 (HI_lg hW.1.2.1)), hK.kw (by decide) (by decide) (by decide) (by decide) (by decide)⟩
  · obtain ⟨r0, r3, r1, r2, r12, r13, r14, rT, r20, r32, r4, r6, rK, rB⟩ := id hR
    dsimp only at r0 r3 r1 r2 r12 r13 r14 rT r20 r32 r4 r6
    subst r0; subst r3; subst r1; subst r12; subst r13; subst r14; subst rT; subst r20; subst r4
    refine (c8_log (d := d + 6) (c := c) hW.1.2.1 hW.1.1).to (fun v σ hv => ?_)
    obtain ⟨y, u, rfl, rfl, ey, e0, hF⟩ := hv
    exact ⟨y, u, rfl, rfl, ey, hR.r1 hF (by decide) e0, hF.kz (by decide)⟩
  · exact ⟨⟨hG.lg, lgF_2.trans h2, hwk⟩, hP.2⟩
theorem k_turns {d : Nat} {s : Sn} {a1 a2 : Int32} (hI : INV s) : SB2 d MX7_turns MX8_turns [vI a1, vI a2] s := by
  obtain ⟨⟨⟨f, c, c8, wk⟩, h, ⟨g, ci, ci8, wi⟩, ⟨so, si, ce⟩, T, ⟨te, kt⟩, ⟨tp, nt⟩⟩, hC, hR, hP⟩ := hI
  obtain ⟨c1, c2, c3, c4, c5, c6, c7, c9, ca⟩ := id hC
  obtain ⟨⟨hG, h2, hwk⟩, ⟨hG1, h21, hwi⟩, hSQ, hCQ, hHQ, hkt, hTQ, hnt⟩ := id hP
  obtain ⟨hW, ⟨n7, hL⟩, hKD, hUC, hN2, hz⟩ := id hG
  dsimp only at c1 c2 c3 c4 c5 c6 c7 hG h2 hwk hG1 h21 hwi hSQ hCQ hHQ hkt hTQ hnt hW hL hKD hUC hN2 hz
  refine step2 (A := tuA f c a1 a2) (D' := ((tuF f c a1 a2, c, c8, wk), h, (g, ci, ci8, wi), (so, si, ce), T, (te, kt), (tp, nt))) hR ?_ (fun t hR => ?_) ?_
  · refine (c7_turns (d := d + 6) c1.1).to (fun v σ hv => ?_)
    obtain ⟨y, t, rfl, rfl, ey, hV, hF⟩ := hv
    have hK := hF.kp XR_k
    exact ⟨y, t, rfl, rfl, ey, hC.k1 hK (by decide) (by decide) (c1.hi hV hF XR_34 (HI_tu hG)), hK.kw (by decide) (by decide) (by decide) (by decide) (by decide)⟩
  · obtain ⟨r0, r3, r1, r2, r12, r13, r14, rT, r20, r32, r4, r6, rK, rB⟩ := id hR
    dsimp only at r0 r3 r1 r2 r12 r13 r14 rT r20 r32 r4 r6
    subst r0; subst r3; subst r1; subst r12; subst r13; subst r14; subst rT; subst r20; subst r4
    refine (c8_turns (d := d + 6) (c := c) hW.1.2.1 hW.1.1).to (fun v σ hv => ?_)
    obtain ⟨y, u, rfl, rfl, ey, e0, hF⟩ := hv
    exact ⟨y, u, rfl, rfl, ey, hR.r1 hF (by decide) e0, hF.kz (by decide)⟩
  · exact ⟨⟨hG.tu, tuF_2.trans h2, hwk⟩, hP.2⟩
theorem k_set {d : Nat} {s : Sn} {a1 a2 a3 : Int32} (hI : INV s) : SB2 d MX7_set MX8_set [vI a1, vI a2, vI a3] s := by
  obtain ⟨⟨⟨f, c, c8, wk⟩, h, ⟨g, ci, ci8, wi⟩, ⟨so, si, ce⟩, T, ⟨te, kt⟩, ⟨tp, nt⟩⟩, hC, hR, hP⟩ := hI
  obtain ⟨c1, c2, c3, c4, c5, c6, c7, c9, ca⟩ := id hC
  obtain ⟨⟨hG, h2, hwk⟩, ⟨hG1, h21, hwi⟩, hSQ, hCQ, hHQ, hkt, hTQ, hnt⟩ := id hP
  obtain ⟨hW, ⟨n7, hL⟩, hKD, hUC, hN2, hz⟩ := id hG
  dsimp only at c1 c2 c3 c4 c5 c6 c7 hG h2 hwk hG1 h21 hwi hSQ hCQ hHQ hkt hTQ hnt hW hL hKD hUC hN2 hz
  refine step2 (A := stA f c a1 a2 a3) (D' := ((stF f c a1 a2 a3, c, c8, wk), h, (g, ci, ci8, wi), (so, si, ce), T, (te, kt), (tp, nt))) hR ?_ (fun t hR => ?_) ?_
  · refine (c7_set (d := d + 6) c1.1).to (fun v σ hv => ?_)
    obtain ⟨y, t, rfl, rfl, ey, hV, hF⟩ := hv
    have hK := hF.kp XR_k
    exact ⟨y, t, rfl, rfl, ey, hC.k1 hK (by decide) (by decide) (c1.hi hV hF XR_34 (HI_st hG)), hK.kw (by decide) (by decide) (by decide) (by decide) (by decide)⟩
  · obtain ⟨r0, r3, r1, r2, r12, r13, r14, rT, r20, r32, r4, r6, rK, rB⟩ := id hR
    dsimp only at r0 r3 r1 r2 r12 r13 r14 rT r20 r32 r4 r6
    subst r0; subst r3; subst r1; subst r12; subst r13; subst r14; subst rT; subst r20; subst r4
    refine (c8_set (d := d + 6) (c := c) hW.1.2.1 hW.1.1).to (fun v σ hv => ?_)
    obtain ⟨y, u, rfl, rfl, ey, e0, hF⟩ := hv
    exact ⟨y, u, rfl, rfl, ey, hR.r1 hF (by decide) e0, hF.kz (by decide)⟩
  · exact ⟨⟨hG.st, stF_2.trans h2, hwk⟩, hP.2⟩
theorem k_lays {d : Nat} {s : Sn} {a1 a2 : Int32} (hI : INV s) : SB2 d MX7_lays MX8_lays [vI a1, vI a2] s := by
  obtain ⟨⟨⟨f, c, c8, wk⟩, h, ⟨g, ci, ci8, wi⟩, ⟨so, si, ce⟩, T, ⟨te, kt⟩, ⟨tp, nt⟩⟩, hC, hR, hP⟩ := hI
  obtain ⟨c1, c2, c3, c4, c5, c6, c7, c9, ca⟩ := id hC
  obtain ⟨⟨hG, h2, hwk⟩, ⟨hG1, h21, hwi⟩, hSQ, hCQ, hHQ, hkt, hTQ, hnt⟩ := id hP
  obtain ⟨hW, ⟨n7, hL⟩, hKD, hUC, hN2, hz⟩ := id hG
  dsimp only at c1 c2 c3 c4 c5 c6 c7 hG h2 hwk hG1 h21 hwi hSQ hCQ hHQ hkt hTQ hnt hW hL hKD hUC hN2 hz
  refine step2 (A := lyA f c a1 a2) (D' := ((lyF f c a1 a2, c, c8, wk), h, (g, ci, ci8, wi), (so, si, ce), T, (te, kt), (tp, nt))) hR ?_ (fun t hR => ?_) ?_
  · refine (c7_lays (d := d + 6) c1.1).to (fun v σ hv => ?_)
    obtain ⟨y, t, rfl, rfl, ey, hV, hF⟩ := hv
    have hK := hF.kp XR_k
    exact ⟨y, t, rfl, rfl, ey, hC.k1 hK (by decide) (by decide) (c1.hi hV hF XR_34 (HI_ly hG)), hK.kw (by decide) (by decide) (by decide) (by decide) (by decide)⟩
  · obtain ⟨r0, r3, r1, r2, r12, r13, r14, rT, r20, r32, r4, r6, rK, rB⟩ := id hR
    dsimp only at r0 r3 r1 r2 r12 r13 r14 rT r20 r32 r4 r6
    subst r0; subst r3; subst r1; subst r12; subst r13; subst r14; subst rT; subst r20; subst r4
    refine (c8_lays (d := d + 6) (c := c) hW.1.2.1 hW.1.1).to (fun v σ hv => ?_)
    obtain ⟨y, u, rfl, rfl, ey, e0, hF⟩ := hv
    exact ⟨y, u, rfl, rfl, ey, hR.r1 hF (by decide) e0, hF.kz (by decide)⟩
  · exact ⟨⟨hG.ly, lyF_2.trans h2, hwk⟩, hP.2⟩
theorem k_reach {d : Nat} {s : Sn} {a1 a2 a3 : Int32} (hI : INV s) : SB2 d MX7_reach MX8_reach [vI a1, vI a2, vI a3] s := by
  obtain ⟨⟨⟨f, c, c8, wk⟩, h, ⟨g, ci, ci8, wi⟩, ⟨so, si, ce⟩, T, ⟨te, kt⟩, ⟨tp, nt⟩⟩, hC, hR, hP⟩ := hI
  obtain ⟨c1, c2, c3, c4, c5, c6, c7, c9, ca⟩ := id hC
  obtain ⟨⟨hG, h2, hwk⟩, ⟨hG1, h21, hwi⟩, hSQ, hCQ, hHQ, hkt, hTQ, hnt⟩ := id hP
  obtain ⟨hW, ⟨n7, hL⟩, hKD, hUC, hN2, hz⟩ := id hG
  dsimp only at c1 c2 c3 c4 c5 c6 c7 hG h2 hwk hG1 h21 hwi hSQ hCQ hHQ hkt hTQ hnt hW hL hKD hUC hN2 hz
  refine step2 (A := rhA f a1 a2 a3) (D' := ((rhF f a1 a2 a3, c, c8, wk), h, (g, ci, ci8, wi), (so, si, ce), T, (te, kt), (tp, nt))) hR ?_ (fun t hR => ?_) ?_
  · refine (c7_reach (d := d + 6) c1.1).to (fun v σ hv => ?_)
    obtain ⟨y, t, rfl, rfl, ey, hV, hF⟩ := hv
    have hK := hF.kp (XT_k (i := 0) (by decide))
    exact ⟨y, t, rfl, rfl, ey, hC.k1 hK (by decide) (by decide) (c1.hi hV hF XT_34 (HI_rh hG)), hK.kw (by decide) (by decide) (by decide) (by decide) (by decide)⟩
  · obtain ⟨r0, r3, r1, r2, r12, r13, r14, rT, r20, r32, r4, r6, rK, rB⟩ := id hR
    dsimp only at r0 r3 r1 r2 r12 r13 r14 rT r20 r32 r4 r6
    subst r0; subst r3; subst r1; subst r12; subst r13; subst r14; subst rT; subst r20; subst r4
    refine (c8_reach (d := d + 6)).to (fun v σ hv => ?_)
    obtain ⟨y, u, rfl, rfl, ey, e0, hF⟩ := hv
    exact ⟨y, u, rfl, rfl, ey, hR.r1 hF (by decide) e0, hF.kz (by decide)⟩
  · exact ⟨⟨hG.rh, rhF_2.trans h2, hwk⟩, hP.2⟩
theorem k_rule {d : Nat} {s : Sn} {a1 a2 : Int32} (hI : INV s) : SB2 d MX7_rule MX8_rule [vI a1, vI a2] s := by
  obtain ⟨⟨⟨f, c, c8, wk⟩, h, ⟨g, ci, ci8, wi⟩, ⟨so, si, ce⟩, T, ⟨te, kt⟩, ⟨tp, nt⟩⟩, hC, hR, hP⟩ := hI
  obtain ⟨c1, c2, c3, c4, c5, c6, c7, c9, ca⟩ := id hC
  obtain ⟨⟨hG, h2, hwk⟩, ⟨hG1, h21, hwi⟩, hSQ, hCQ, hHQ, hkt, hTQ, hnt⟩ := id hP
  obtain ⟨hW, ⟨n7, hL⟩, hKD, hUC, hN2, hz⟩ := id hG
  dsimp only at c1 c2 c3 c4 c5 c6 c7 hG h2 hwk hG1 h21 hwi hSQ hCQ hHQ hkt hTQ hnt hW hL hKD hUC hN2 hz
  refine step2 (A := ruA f a1 a2) (D' := ((ruF f a1 a2, c, c8, wk), h, (g, ci, ci8, wi), (so, si, ce), T, (te, kt), (tp, nt))) hR ?_ (fun t hR => ?_) ?_
  · refine (c7_rule (d := d + 7) c1.1).to (fun v σ hv => ?_)
    obtain ⟨y, t, rfl, rfl, ey, hV, hF⟩ := hv
    have hK := hF.kp XR_k
    exact ⟨y, t, rfl, rfl, ey, hC.k1 hK (by decide) (by decide) (c1.hi hV hF XR_34 (HI_ru hG)), hK.kw (by decide) (by decide) (by decide) (by decide) (by decide)⟩
  · obtain ⟨r0, r3, r1, r2, r12, r13, r14, rT, r20, r32, r4, r6, rK, rB⟩ := id hR
    dsimp only at r0 r3 r1 r2 r12 r13 r14 rT r20 r32 r4 r6
    subst r0; subst r3; subst r1; subst r12; subst r13; subst r14; subst rT; subst r20; subst r4
    refine (c8_rule (d := d + 7)).to (fun v σ hv => ?_)
    obtain ⟨y, u, rfl, rfl, ey, e0, hF⟩ := hv
    exact ⟨y, u, rfl, rfl, ey, hR.r1 hF (by decide) e0, hF.kz (by decide)⟩
  · exact ⟨⟨hG.ru, ruF_2.trans h2, hwk⟩, hP.2⟩
theorem k_word {d : Nat} {s : Sn} {a1 : Int32} (hI : INV s) : SB2 d MX7_word MX8_word [vI a1] s := by
  obtain ⟨⟨⟨f, c, c8, wk⟩, h, ⟨g, ci, ci8, wi⟩, ⟨so, si, ce⟩, T, ⟨te, kt⟩, ⟨tp, nt⟩⟩, hC, hR, hP⟩ := hI
  obtain ⟨c1, c2, c3, c4, c5, c6, c7, c9, ca⟩ := id hC
  obtain ⟨⟨hG, h2, hwk⟩, ⟨hG1, h21, hwi⟩, hSQ, hCQ, hHQ, hkt, hTQ, hnt⟩ := id hP
  obtain ⟨hW, ⟨n7, hL⟩, hKD, hUC, hN2, hz⟩ := id hG
  dsimp only at c1 c2 c3 c4 c5 c6 c7 hG h2 hwk hG1 h21 hwi hSQ hCQ hHQ hkt hTQ hnt hW hL hKD hUC hN2 hz
  refine step2 (A := wdA n7 a1) (D' := ((wdF f n7 a1, c, c8, wk), h, (g, ci, ci8, wi), (so, si, ce), T, (te, kt), (tp, nt))) hR ?_ (fun t hR => ?_) ?_
  · refine (c7_word (d := d + 6) c1.1 hL.2.1 hL.1).to (fun v σ hv => ?_)
    obtain ⟨y, t, rfl, rfl, ey, hV, hF⟩ := hv
    have hK := hF.kp (XT_k (i := 0) (by decide))
    exact ⟨y, t, rfl, rfl, ey, hC.k1 hK (by decide) (by decide) (c1.hi hV hF XT_34 (HI_wd hL.2.1)), hK.kw (by decide) (by decide) (by decide) (by decide) (by decide)⟩
  · obtain ⟨r0, r3, r1, r2, r12, r13, r14, rT, r20, r32, r4, r6, rK, rB⟩ := id hR
    dsimp only at r0 r3 r1 r2 r12 r13 r14 rT r20 r32 r4 r6
    subst r0; subst r3; subst r1; subst r12; subst r13; subst r14; subst rT; subst r20; subst r4
    refine (c8_word (d := d + 7) hL.2.1 hL.1).to (fun v σ hv => ?_)
    obtain ⟨y, u, rfl, rfl, ey, e0, hF⟩ := hv
    exact ⟨y, u, rfl, rfl, ey, hR.r1 hF (by decide) e0, hF.kz (by decide)⟩
  · exact ⟨⟨hG.wor hL, wdF_2.trans h2, hwk⟩, hP.2⟩
theorem k_unword {d : Nat} {s : Sn} (hI : INV s) : SB2 d MX7_unword MX8_unword [] s := by
  obtain ⟨⟨⟨f, c, c8, wk⟩, h, ⟨g, ci, ci8, wi⟩, ⟨so, si, ce⟩, T, ⟨te, kt⟩, ⟨tp, nt⟩⟩, hC, hR, hP⟩ := hI
  obtain ⟨c1, c2, c3, c4, c5, c6, c7, c9, ca⟩ := id hC
  obtain ⟨⟨hG, h2, hwk⟩, ⟨hG1, h21, hwi⟩, hSQ, hCQ, hHQ, hkt, hTQ, hnt⟩ := id hP
  obtain ⟨hW, ⟨n7, hL⟩, hKD, hUC, hN2, hz⟩ := id hG
  dsimp only at c1 c2 c3 c4 c5 c6 c7 hG h2 hwk hG1 h21 hwi hSQ hCQ hHQ hkt hTQ hnt hW hL hKD hUC hN2 hz
  refine step2 (A := f 7) (D' := ((upd f 7 0, c, c8, wk), h, (g, ci, ci8, wi), (so, si, ce), T, (te, kt), (tp, nt))) hR ?_ (fun t hR => ?_) ?_
  · refine (c7_unword (d := d + 8) c1.1).to (fun v σ hv => ?_)
    obtain ⟨y, t, rfl, rfl, ey, et⟩ := hv
    have hF : FQ (XT 0) s (sI s (11, 0, 0) 7 0) := FQ.rf.pt ⟨rfl, Or.inl rfl⟩
    have hV : RV (sI s (11, 0, 0) 7 0) 0 (upd f 7 0) c := c1.1.u
    subst et
    have hK := hF.kp (XT_k (i := 0) (by decide))
    exact ⟨y, _, rfl, rfl, ey, hC.k1 hK (by decide) (by decide) (c1.hi hV hF XT_34 (HI.u (by decide) (by decide))), hK.kw (by decide) (by decide) (by decide) (by decide) (by decide)⟩
  · obtain ⟨r0, r3, r1, r2, r12, r13, r14, rT, r20, r32, r4, r6, rK, rB⟩ := id hR
    dsimp only at r0 r3 r1 r2 r12 r13 r14 rT r20 r32 r4 r6
    subst r0; subst r3; subst r1; subst r12; subst r13; subst r14; subst rT; subst r20; subst r4
    refine (c8_unword (d := d + 7)).to (fun v σ hv => ?_)
    obtain ⟨y, u, rfl, rfl, ey, et⟩ := hv
    subst et
    have hF : Fr [(41, 0, 0)] t (sI t (41, 0, 0) 7 0) := Fr.rf.pt (by decide)
    exact ⟨y, _, rfl, rfl, ey, hR.r1 hF (by decide) sI_row, hF.kz (by decide)⟩
  · exact ⟨⟨hG.unw, (show upd f 7 0 2 = nI wk from (upd_ne (by decide)).trans h2), hwk⟩, hP.2⟩
theorem k_deal {d : Nat} {s : Sn} {a1 : Int32} (hI : INV s) : SB2 d MX7_deal MX8_deal [vI a1] s := by
  obtain ⟨⟨⟨f, c, c8, wk⟩, h, ⟨g, ci, ci8, wi⟩, ⟨so, si, ce⟩, T, ⟨te, kt⟩, ⟨tp, nt⟩⟩, hC, hR, hP⟩ := hI
  obtain ⟨c1, c2, c3, c4, c5, c6, c7, c9, ca⟩ := id hC
  obtain ⟨⟨hG, h2, hwk⟩, ⟨hG1, h21, hwi⟩, hSQ, hCQ, hHQ, hkt, hTQ, hnt⟩ := id hP
  obtain ⟨hW, ⟨n7, hL⟩, hKD, hUC, hN2, hz⟩ := id hG
  dsimp only at c1 c2 c3 c4 c5 c6 c7 hG h2 hwk hG1 h21 hwi hSQ hCQ hHQ hkt hTQ hnt hW hL hKD hUC hN2 hz
  refine step2 (A := dlA c a1) (D' := ((dlF f c a1, dlC c a1, c8, wk), h, (g, ci, ci8, wi), (so, si, ce), T, (te, kt), (tp, nt))) hR ?_ (fun t hR => ?_) ?_
  · refine (c7_deal (d := d + 6) c1.1).to (fun v σ hv => ?_)
    obtain ⟨y, t, rfl, rfl, ey, hV, hF⟩ := hv
    have hK := hF.kp XR_k
    exact ⟨y, t, rfl, rfl, ey, hC.k1 hK (by decide) (by decide) (c1.hi hV hF XR_34 (HI_dl hW.1.2.1)), hK.kw (by decide) (by decide) (by decide) (by decide) (by decide)⟩
  · obtain ⟨r0, r3, r1, r2, r12, r13, r14, rT, r20, r32, r4, r6, rK, rB⟩ := id hR
    dsimp only at r0 r3 r1 r2 r12 r13 r14 rT r20 r32 r4 r6
    subst r0; subst r3; subst r1; subst r12; subst r13; subst r14; subst rT; subst r20; subst r4
    refine (c8_deal (d := d + 6) (c := c) hW.1.2.1 hW.1.1).to (fun v σ hv => ?_)
    obtain ⟨y, u, rfl, rfl, ey, e0, hF⟩ := hv
    exact ⟨y, u, rfl, rfl, ey, hR.r1 hF (by decide) e0, hF.kz (by decide)⟩
  · exact ⟨⟨hG.dl, dlF_2.trans h2, hwk⟩, hP.2⟩
theorem k_seed {d : Nat} {s : Sn} {a1 : Int32} (hI : INV s) : SB2 d MX7_seed MX8_seed [vI a1] s := by
  obtain ⟨⟨⟨f, c, c8, wk⟩, h, ⟨g, ci, ci8, wi⟩, ⟨so, si, ce⟩, T, ⟨te, kt⟩, ⟨tp, nt⟩⟩, hC, hR, hP⟩ := hI
  obtain ⟨c1, c2, c3, c4, c5, c6, c7, c9, ca⟩ := id hC
  obtain ⟨⟨hG, h2, hwk⟩, ⟨hG1, h21, hwi⟩, hSQ, hCQ, hHQ, hkt, hTQ, hnt⟩ := id hP
  obtain ⟨hW, ⟨n7, hL⟩, hKD, hUC, hN2, hz⟩ := id hG
  dsimp only at c1 c2 c3 c4 c5 c6 c7 hG h2 hwk hG1 h21 hwi hSQ hCQ hHQ hkt hTQ hnt hW hL hKD hUC hN2 hz
  refine step2 (A := f 0) (D' := ((upd f 0 a1, c, c8, wk), h, (g, ci, ci8, wi), (so, si, ce), T, (te, kt), (tp, nt))) hR ?_ (fun t hR => ?_) ?_
  · refine (c7_seed (d := d + 8) c1.1).to (fun v σ hv => ?_)
    obtain ⟨y, t, rfl, rfl, ey, et⟩ := hv
    have hF : FQ (XT 0) s (sI s (11, 0, 0) 15 a1) := FQ.rf.pt ⟨rfl, Or.inl rfl⟩
    have hV : RV (sI s (11, 0, 0) 15 a1) 0 (upd f 0 a1) c := c1.1.z
    subst et
    have hK := hF.kp (XT_k (i := 0) (by decide))
    exact ⟨y, _, rfl, rfl, ey, hC.k1 hK (by decide) (by decide) (c1.hi hV hF XT_34 (HI.u (by decide) (by decide))), hK.kw (by decide) (by decide) (by decide) (by decide) (by decide)⟩
  · obtain ⟨r0, r3, r1, r2, r12, r13, r14, rT, r20, r32, r4, r6, rK, rB⟩ := id hR
    dsimp only at r0 r3 r1 r2 r12 r13 r14 rT r20 r32 r4 r6
    subst r0; subst r3; subst r1; subst r12; subst r13; subst r14; subst rT; subst r20; subst r4
    refine (c8_seed (d := d + 7)).to (fun v σ hv => ?_)
    obtain ⟨y, u, rfl, rfl, ey, et⟩ := hv
    subst et
    have hF : Fr [(41, 0, 0)] t (sI t (41, 0, 0) 0 a1) := Fr.rf.pt (by decide)
    exact ⟨y, _, rfl, rfl, ey, hR.r1 hF (by decide) sI_row, hF.kz (by decide)⟩
  · exact ⟨⟨hG.lo (Or.inl rfl), (show upd f 0 a1 2 = nI wk from (upd_ne (by decide)).trans h2), hwk⟩, hP.2⟩
theorem k_weeks {d : Nat} {s : Sn} {a1 : Int32} (hI : INV s) : SB2 d MX7_weeks MX8_weeks [vI a1] s := by
  obtain ⟨⟨⟨f, c, c8, wk⟩, h, ⟨g, ci, ci8, wi⟩, ⟨so, si, ce⟩, T, ⟨te, kt⟩, ⟨tp, nt⟩⟩, hC, hR, hP⟩ := hI
  obtain ⟨c1, c2, c3, c4, c5, c6, c7, c9, ca⟩ := id hC
  obtain ⟨⟨hG, h2, hwk⟩, ⟨hG1, h21, hwi⟩, hSQ, hCQ, hHQ, hkt, hTQ, hnt⟩ := id hP
  obtain ⟨hW, ⟨n7, hL⟩, hKD, hUC, hN2, hz⟩ := id hG
  dsimp only at c1 c2 c3 c4 c5 c6 c7 hG h2 hwk hG1 h21 hwi hSQ hCQ hHQ hkt hTQ hnt hW hL hKD hUC hN2 hz
  obtain ⟨w2, e2, hw2⟩ := wkF_2 (x := a1) h2 hwk
  refine step2 (A := wkA f wk a1) (D' := ((wkF f wk a1, c, c8, w2), h, (g, ci, ci8, wi), (so, si, ce), T, (te, kt), (tp, nt))) hR ?_ (fun t hR => ?_) ?_
  · refine (c7_weeks (d := d + 2) c1.1 hW c1.2.1 h2 hwk).to (fun v σ hv => ?_)
    obtain ⟨y, t, rfl, rfl, ey, ⟨hV, hLw⟩, hF⟩ := hv
    have hK := hF.kp XR_k
    exact ⟨y, t, rfl, rfl, ey, hC.k1 hK (by decide) (by decide) ⟨hV, hLw, fun u hu n hn => by rw [hF.2] at hn ⊢; exact c1.2.2 u hu n hn⟩, hK.kw (by decide) (by decide) (by decide) (by decide) (by decide)⟩
  · obtain ⟨r0, r3, r1, r2, r12, r13, r14, rT, r20, r32, r4, r6, rK, rB⟩ := id hR
    dsimp only at r0 r3 r1 r2 r12 r13 r14 rT r20 r32 r4 r6
    subst r0; subst r3; subst r1; subst r12; subst r13; subst r14; subst rT; subst r20; subst r4
    refine (c8_weeks (d := d + 2) hW.1 h2 hwk).to (fun v σ hv => ?_)
    obtain ⟨y, u, rfl, rfl, ey, e0, hF⟩ := hv
    exact ⟨y, u, rfl, rfl, ey, hR.r1 hF (by decide) e0, hF.kz (by decide)⟩
  · exact ⟨⟨hG.wk, e2, hw2⟩, hP.2⟩
