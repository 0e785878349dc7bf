/-! THE PURE PART, 96: the other calls -/
theorem k_pour {d : Nat} {s : Sn} {a1 : Int32} (hI : INV s) : SB2 d MX7_pour MX8_pour [vI a1] s := by
  obtain ⟨⟨⟨f, c, c8, wk⟩, h, ⟨g, ci, ci8, wi⟩, ⟨so, si, ce⟩, T, ⟨te, kt⟩, ⟨tp, nt⟩⟩, hC, hR, hP⟩ := hI
  obtain ⟨c1, c2, c3, c4, c5, c6, c7, c9, ca⟩ := id hC
  obtain ⟨⟨hG, h2, hwk⟩, ⟨hG1, h21, hwi⟩, hSQ, hCQ, hHQ, hkt, hTQ, hnt⟩ := id hP
  obtain ⟨hW, ⟨n7, hL⟩, hKD, hUC, hN2, hz⟩ := id hG
  dsimp only at c1 c2 c3 c4 c5 c6 c7 hG h2 hwk hG1 h21 hwi hSQ hCQ hHQ hkt hTQ hnt hW hL hKD hUC hN2 hz
  refine step2 (A := poA f so si ce a1) (D' := ((poF f so si ce a1, c, c8, wk), h, (g, ci, ci8, wi), (so, si, ce), T, (te, kt), (tp, nt))) hR ?_ (fun t hR => ?_) ?_
  · refine (c7_pour (d := d + 6) c1.1 c4 hSQ).to (fun v σ hv => ?_)
    obtain ⟨y, t, rfl, rfl, ey, hV, hF⟩ := hv
    have hK : Kp [100] [] s t := hF.kp (fun r hr => by rw [hr]; decide)
    exact ⟨y, t, rfl, rfl, ey, hC.k1 hK (by decide) (by decide) (c1.hi hV hF (fun r hr hz => by rw [hz] at hr; exact absurd hr (by decide)) HI_po), hK.kw (by decide) (by decide) (by decide) (by decide) (by decide)⟩
  · obtain ⟨r0, r3, r1, r2, r12, r13, r14, rT, r20, r32, r4, r6, rK, rB⟩ := id hR
    dsimp only at r0 r3 r1 r2 r12 r13 r14 rT r20 r32 r4 r6
    subst r0; subst r3; subst r1; subst r12; subst r13; subst r14; subst rT; subst r20; subst r4
    refine (c8_pour (d := d + 6) hSQ).to (fun v σ hv => ?_)
    obtain ⟨y, u, rfl, rfl, ey, e0, hF⟩ := hv
    exact ⟨y, u, rfl, rfl, ey, hR.r1 hF (by decide) e0, hF.kz (by decide)⟩
  · exact ⟨⟨hG.po, poF_2.trans h2, hwk⟩, hP.2⟩
theorem k_sheet {d : Nat} {s : Sn} {a1 a2 a3 : Int32} (hI : INV s) : SB2 d MX7_sheet MX8_sheet [vI a1, vI a2, vI a3] s := by
  obtain ⟨⟨⟨f, c, c8, wk⟩, h, ⟨g, ci, ci8, wi⟩, ⟨so, si, ce⟩, T, ⟨te, kt⟩, ⟨tp, nt⟩⟩, hC, hR, hP⟩ := hI
  obtain ⟨c1, c2, c3, c4, c5, c6, c7, c9, ca⟩ := id hC
  obtain ⟨⟨hG, h2, hwk⟩, ⟨hG1, h21, hwi⟩, hSQ, hCQ, hHQ, hkt, hTQ, hnt⟩ := id hP
  obtain ⟨hW, ⟨n7, hL⟩, hKD, hUC, hN2, hz⟩ := id hG
  dsimp only at c1 c2 c3 c4 c5 c6 c7 hG h2 hwk hG1 h21 hwi hSQ hCQ hHQ hkt hTQ hnt hW hL hKD hUC hN2 hz
  refine step2 (A := shA a1 a2 a3) (D' := ((f, c, c8, wk), h, (g, ci, ci8, wi), (shS so a1 a2 a3, shI si a1 a2 a3, shC ce a1 a2 a3), T, (te, kt), (tp, nt))) hR ?_ (fun t hR => ?_) ?_
  · refine (c7_sheet (d := d + 6) c4).to (fun v σ hv => ?_)
    obtain ⟨y, t, rfl, rfl, ey, hS, hF⟩ := hv
    have hK := hF.kp XS_k
    exact ⟨y, t, rfl, rfl, ey, ⟨RVL.kp (by decide) c1 hK (by decide) (by decide) (by decide) (by decide), (congrFun (hK.g (a := 10) (i := 0) (j := 0) (by decide) (by decide)) 9).trans c2, fun q => RVL.kp (by decide) (c3 q) hK (by decide) (by decide) (by decide) (by decide), hS, c5.kp hK (by decide) (by decide) (by decide) (by decide), c6.kp hK (by decide) (by decide), c7.kp hK (by decide) (by decide), c9.kp hK (by decide), ca.kp hK (by decide) (by decide)⟩, hK.kw (by decide) (by decide) (by decide) (by decide) (by decide)⟩
  · obtain ⟨r0, r3, r1, r2, r12, r13, r14, rT, r20, r32, r4, r6, rK, rB⟩ := id hR
    dsimp only at r0 r3 r1 r2 r12 r13 r14 rT r20 r32 r4 r6
    subst r0; subst r3; subst r1; subst r12; subst r13; subst r14; subst rT; subst r20; subst r4
    refine (c8_sheet (d := d + 6)).to (fun v σ hv => ?_)
    obtain ⟨y, u, rfl, rfl, ey, e12, e13, e14, hF⟩ := hv
    exact ⟨y, u, rfl, rfl, ey, ⟨hF.1 _ (by decide), congrFun (hF.1 (40, 0, 0) (by decide)) 3, hF.1 _ (by decide), fun q hq => (congrFun (hF.1 (41, 2, 0) (by decide)) q).trans (r2 q hq), e12, e13, e14, by rw [hF.1 (41, 15, 0) (by decide), hF.1 (41, 16, 0) (by decide), hF.1 (41, 17, 0) (by decide), hF.1 (41, 18, 0) (by decide)], hF.1 _ (by decide), (congrFun (hF.1 (40, 0, 0) (by decide)) 32).trans r32, hF.1 _ (by decide), (congrFun (hF.1 (40, 0, 0) (by decide)) 6).trans r6, rK.cg (hF.1 _ (by decide)) (hF.1 _ (by decide)), TB.cg rB (hF.1 _ (by decide))⟩, hF.kz (by decide)⟩
  · exact ⟨hP.1, hP.2.1, hSQ.sh, hCQ.sh, hP.2.2.2.2⟩
theorem k_mark {d : Nat} {s : Sn} {a1 a2 a3 : Int32} (hI : INV s) : SB2 d MX7_mark MX8_mark [vI a1, vI a2, vI a3] s := by
  obtain ⟨⟨⟨f, c, c8, wk⟩, h, ⟨g, ci, ci8, wi⟩, ⟨so, si, ce⟩, T, ⟨te, kt⟩, ⟨tp, nt⟩⟩, hC, hR, hP⟩ := hI
  obtain ⟨c1, c2, c3, c4, c5, c6, c7, c9, ca⟩ := id hC
  obtain ⟨⟨hG, h2, hwk⟩, ⟨hG1, h21, hwi⟩, hSQ, hCQ, hHQ, hkt, hTQ, hnt⟩ := id hP
  obtain ⟨hW, ⟨n7, hL⟩, hKD, hUC, hN2, hz⟩ := id hG
  dsimp only at c1 c2 c3 c4 c5 c6 c7 hG h2 hwk hG1 h21 hwi hSQ hCQ hHQ hkt hTQ hnt hW hL hKD hUC hN2 hz
  refine step2 (A := mkA so si a1 a2 a3) (D' := ((f, c, c8, wk), h, (g, ci, ci8, wi), (so, si, mkC so si ce a1 a2 a3), T, (te, kt), (tp, nt))) hR ?_ (fun t hR => ?_) ?_
  · refine (c7_mark (d := d + 6) c4 hSQ).to (fun v σ hv => ?_)
    obtain ⟨y, t, rfl, rfl, ey, hS, hF⟩ := hv
    have hK := hF.kp XS_k
    exact ⟨y, t, rfl, rfl, ey, ⟨RVL.kp (by decide) c1 hK (by decide) (by decide) (by decide) (by decide), (congrFun (hK.g (a := 10) (i := 0) (j := 0) (by decide) (by decide)) 9).trans c2, fun q => RVL.kp (by decide) (c3 q) hK (by decide) (by decide) (by decide) (by decide), hS, c5.kp hK (by decide) (by decide) (by decide) (by decide), c6.kp hK (by decide) (by decide), c7.kp hK (by decide) (by decide), c9.kp hK (by decide), ca.kp hK (by decide) (by decide)⟩, hK.kw (by decide) (by decide) (by decide) (by decide) (by decide)⟩
  · obtain ⟨r0, r3, r1, r2, r12, r13, r14, rT, r20, r32, r4, r6, rK, rB⟩ := id hR
    dsimp only at r0 r3 r1 r2 r12 r13 r14 rT r20 r32 r4 r6
    subst r0; subst r3; subst r1; subst r12; subst r13; subst r14; subst rT; subst r20; subst r4
    refine (c8_mark (d := d + 6) hSQ).to (fun v σ hv => ?_)
    obtain ⟨y, u, rfl, rfl, ey, e14, hF⟩ := hv
    exact ⟨y, u, rfl, rfl, ey, ⟨hF.1 _ (by decide), congrFun (hF.1 (40, 0, 0) (by decide)) 3, hF.1 _ (by decide), fun q hq => (congrFun (hF.1 (41, 2, 0) (by decide)) q).trans (r2 q hq), hF.1 _ (by decide), hF.1 _ (by decide), e14, by rw [hF.1 (41, 15, 0) (by decide), hF.1 (41, 16, 0) (by decide), hF.1 (41, 17, 0) (by decide), hF.1 (41, 18, 0) (by decide)], hF.1 _ (by decide), (congrFun (hF.1 (40, 0, 0) (by decide)) 32).trans r32, hF.1 _ (by decide), (congrFun (hF.1 (40, 0, 0) (by decide)) 6).trans r6, rK.cg (hF.1 _ (by decide)) (hF.1 _ (by decide)), TB.cg rB (hF.1 _ (by decide))⟩, hF.kz (by decide)⟩
  · exact ⟨hP.1, hP.2.1, hSQ, hCQ.mk hSQ, hP.2.2.2.2⟩
theorem k_copy {d : Nat} {s : Sn} {a1 a2 a3 a4 a5 : Int32} (hI : INV s) : SB2 d MX7_copy MX8_copy [vI a1, vI a2, vI a3, vI a4, vI a5] s := by
  obtain ⟨⟨⟨f, c, c8, wk⟩, h, ⟨g, ci, ci8, wi⟩, ⟨so, si, ce⟩, T, ⟨te, kt⟩, ⟨tp, nt⟩⟩, hC, hR, hP⟩ := hI
  obtain ⟨c1, c2, c3, c4, c5, c6, c7, c9, ca⟩ := id hC
  obtain ⟨⟨hG, h2, hwk⟩, ⟨hG1, h21, hwi⟩, hSQ, hCQ, hHQ, hkt, hTQ, hnt⟩ := id hP
  obtain ⟨hW, ⟨n7, hL⟩, hKD, hUC, hN2, hz⟩ := id hG
  dsimp only at c1 c2 c3 c4 c5 c6 c7 hG h2 hwk hG1 h21 hwi hSQ hCQ hHQ hkt hTQ hnt hW hL hKD hUC hN2 hz
  refine step2 (A := cyA so si a1 a2 a3 a4 a5) (D' := ((f, c, c8, wk), h, (g, ci, ci8, wi), (so, si, cyC so si ce a1 a2 a3 a4 a5), T, (te, kt), (tp, nt))) hR ?_ (fun t hR => ?_) ?_
  · refine (c7_copy (d := d + 6) c4 hSQ).to (fun v σ hv => ?_)
    obtain ⟨y, t, rfl, rfl, ey, hS, hF⟩ := hv
    have hK := hF.kp XS_k
    exact ⟨y, t, rfl, rfl, ey, ⟨RVL.kp (by decide) c1 hK (by decide) (by decide) (by decide) (by decide), (congrFun (hK.g (a := 10) (i := 0) (j := 0) (by decide) (by decide)) 9).trans c2, fun q => RVL.kp (by decide) (c3 q) hK (by decide) (by decide) (by decide) (by decide), hS, c5.kp hK (by decide) (by decide) (by decide) (by decide), c6.kp hK (by decide) (by decide), c7.kp hK (by decide) (by decide), c9.kp hK (by decide), ca.kp hK (by decide) (by decide)⟩, hK.kw (by decide) (by decide) (by decide) (by decide) (by decide)⟩
  · obtain ⟨r0, r3, r1, r2, r12, r13, r14, rT, r20, r32, r4, r6, rK, rB⟩ := id hR
    dsimp only at r0 r3 r1 r2 r12 r13 r14 rT r20 r32 r4 r6
    subst r0; subst r3; subst r1; subst r12; subst r13; subst r14; subst rT; subst r20; subst r4
    refine (c8_copy (d := d + 6) hSQ).to (fun v σ hv => ?_)
    obtain ⟨y, u, rfl, rfl, ey, e14, hF⟩ := hv
    exact ⟨y, u, rfl, rfl, ey, ⟨hF.1 _ (by decide), congrFun (hF.1 (40, 0, 0) (by decide)) 3, hF.1 _ (by decide), fun q hq => (congrFun (hF.1 (41, 2, 0) (by decide)) q).trans (r2 q hq), hF.1 _ (by decide), hF.1 _ (by decide), e14, by rw [hF.1 (41, 15, 0) (by decide), hF.1 (41, 16, 0) (by decide), hF.1 (41, 17, 0) (by decide), hF.1 (41, 18, 0) (by decide)], hF.1 _ (by decide), (congrFun (hF.1 (40, 0, 0) (by decide)) 32).trans r32, hF.1 _ (by decide), (congrFun (hF.1 (40, 0, 0) (by decide)) 6).trans r6, rK.cg (hF.1 _ (by decide)) (hF.1 _ (by decide)), TB.cg rB (hF.1 _ (by decide))⟩, hF.kz (by decide)⟩
  · exact ⟨hP.1, hP.2.1, hSQ, hCQ.cy hSQ, hP.2.2.2.2⟩
theorem k_lay {d : Nat} {s : Sn} {a1 a2 a3 : Int32} (hI : INV s) : SB2 d MX7_lay MX8_lay [vI a1, vI a2, vI a3] s := by
  obtain ⟨⟨⟨f, c, c8, wk⟩, h, ⟨g, ci, ci8, wi⟩, ⟨so, si, ce⟩, T, ⟨te, kt⟩, ⟨tp, nt⟩⟩, hC, hR, hP⟩ := hI
  obtain ⟨c1, c2, c3, c4, c5, c6, c7, c9, ca⟩ := id hC
  obtain ⟨⟨hG, h2, hwk⟩, ⟨hG1, h21, hwi⟩, hSQ, hCQ, hHQ, hkt, hTQ, hnt⟩ := id hP
  obtain ⟨hW, ⟨n7, hL⟩, hKD, hUC, hN2, hz⟩ := id hG
  dsimp only at c1 c2 c3 c4 c5 c6 c7 hG h2 hwk hG1 h21 hwi hSQ hCQ hHQ hkt hTQ hnt hW hL hKD hUC hN2 hz
  refine step2 (A := laA so T c a1 a2 a3) (D' := ((f, c, c8, wk), h, (g, ci, ci8, wi), (so, si, ce), laT f so si ce T c a1 a2 a3, (te, kt), (tp, nt))) hR ?_ (fun t hR => ?_) ?_
  · refine (c7_lay (d := d + 6) c1.1 hKD c4 hSQ c5).to (fun v σ hv => ?_)
    obtain ⟨y, t, rfl, rfl, ey, hS, hF⟩ := hv
    have hK := hF.kp XL_k
    exact ⟨y, t, rfl, rfl, ey, ⟨RVL.kp (by decide) c1 hK (by decide) (by decide) (by decide) (by decide), (congrFun (hK.g (a := 10) (i := 0) (j := 0) (by decide) (by decide)) 9).trans c2, fun q => RVL.kp (by decide) (c3 q) hK (by decide) (by decide) (by decide) (by decide), c4.kp hK (by decide) (by decide), hS, c6.kp hK (by decide) (by decide), c7.kp hK (by decide) (by decide), c9.kp hK (by decide), ca.kp hK (by decide) (by decide)⟩, hK.kw (by decide) (by decide) (by decide) (by decide) (by decide)⟩
  · obtain ⟨r0, r3, r1, r2, r12, r13, r14, rT, r20, r32, r4, r6, rK, rB⟩ := id hR
    dsimp only at r0 r3 r1 r2 r12 r13 r14 rT r20 r32 r4 r6
    subst r0; subst r3; subst r1; subst r12; subst r13; subst r14; subst rT; subst r20; subst r4
    refine (c8_lay (d := d + 6) (c := c) hW.1.2.1 hW.1.1).to (fun v σ hv => ?_)
    obtain ⟨y, u, rfl, rfl, ey, eT, hF⟩ := hv
    exact ⟨y, u, rfl, rfl, ey, ⟨hF.1 _ (by decide), congrFun (hF.1 (40, 0, 0) (by decide)) 3, hF.1 _ (by decide), fun q hq => (congrFun (hF.1 (41, 2, 0) (by decide)) q).trans (r2 q hq), hF.1 _ (by decide), hF.1 _ (by decide), hF.1 _ (by decide), eT, hF.1 _ (by decide), (congrFun (hF.1 (40, 0, 0) (by decide)) 32).trans r32, hF.1 _ (by decide), (congrFun (hF.1 (40, 0, 0) (by decide)) 6).trans r6, rK.cg (hF.1 _ (by decide)) (hF.1 _ (by decide)), TB.cg rB (hF.1 _ (by decide))⟩, hF.kz (by decide)⟩
  · exact ⟨hP.1, hP.2.1, hSQ, hCQ, hHQ.la hSQ, hP.2.2.2.2.2⟩
theorem k_feed {d : Nat} {s : Sn} {a1 a2 a3 : Int32} (hI : INV s) : SB2 d MX7_feed MX8_feed [vI a1, vI a2, vI a3] s := by
  obtain ⟨⟨⟨f, c, c8, wk⟩, h, ⟨g, ci, ci8, wi⟩, ⟨so, si, ce⟩, T, ⟨te, kt⟩, ⟨tp, nt⟩⟩, hC, hR, hP⟩ := hI
  obtain ⟨c1, c2, c3, c4, c5, c6, c7, c9, ca⟩ := id hC
  obtain ⟨⟨hG, h2, hwk⟩, ⟨hG1, h21, hwi⟩, hSQ, hCQ, hHQ, hkt, hTQ, hnt⟩ := id hP
  obtain ⟨hW, ⟨n7, hL⟩, hKD, hUC, hN2, hz⟩ := id hG
  dsimp only at c1 c2 c3 c4 c5 c6 c7 hG h2 hwk hG1 h21 hwi hSQ hCQ hHQ hkt hTQ hnt hW hL hKD hUC hN2 hz
  refine step2 (A := fdA nt) (D' := ((f, c, c8, wk), h, (g, ci, ci8, wi), (so, si, ce), T, (te, kt), (fdF tp a1 a2 a3 nt, fdN nt))) hR ?_ (fun t hR => ?_) ?_
  · refine (c7_feed (d := d + 7) hnt c7).to (fun v σ hv => ?_)
    obtain ⟨y, t, rfl, rfl, ey, hS, hF⟩ := hv
    have hK : Kp [21, 22] [] s t := hF.kp (fun r hr => by rcases hr with hr | hr <;> rw [hr] <;> decide)
    exact ⟨y, t, rfl, rfl, ey, ⟨RVL.kp (by decide) c1 hK (by decide) (by decide) (by decide) (by decide), (congrFun (hK.g (a := 10) (i := 0) (j := 0) (by decide) (by decide)) 9).trans c2, fun q => RVL.kp (by decide) (c3 q) hK (by decide) (by decide) (by decide) (by decide), c4.kp hK (by decide) (by decide), c5.kp hK (by decide) (by decide) (by decide) (by decide), c6.kp hK (by decide) (by decide), hS, c9.kp hK (by decide), ca.kp hK (by decide) (by decide)⟩, hK.kw (by decide) (by decide) (by decide) (by decide) (by decide)⟩
  · obtain ⟨r0, r3, r1, r2, r12, r13, r14, rT, r20, r32, r4, r6, rK, rB⟩ := id hR
    dsimp only at r0 r3 r1 r2 r12 r13 r14 rT r20 r32 r4 r6
    subst r0; subst r3; subst r1; subst r12; subst r13; subst r14; subst rT; subst r20; subst r4
    refine (c8_feed (d := d + 8) hnt r6).to (fun v σ hv => ?_)
    obtain ⟨y, u, rfl, rfl, ey, e4, e40, hF⟩ := hv
    exact ⟨y, u, rfl, rfl, ey, ⟨hF.1 _ (by decide), by rw [e40]; exact upd_ne (by decide), hF.1 _ (by decide), fun q hq => (congrFun (hF.1 (41, 2, 0) (by decide)) q).trans (r2 q hq), hF.1 _ (by decide), hF.1 _ (by decide), hF.1 _ (by decide), by rw [hF.1 (41, 15, 0) (by decide), hF.1 (41, 16, 0) (by decide), hF.1 (41, 17, 0) (by decide), hF.1 (41, 18, 0) (by decide)], hF.1 _ (by decide), by rw [e40]; exact (upd_ne (by decide)).trans r32, e4, by rw [e40]; exact upd_eq, rK.cg (hF.1 _ (by decide)) (hF.1 _ (by decide)), TB.cg rB (hF.1 _ (by decide))⟩, hF.kz (by decide)⟩
  · exact ⟨hP.1, hP.2.1, hSQ, hCQ, hHQ, hkt, hTQ.fd, fdN_le hnt⟩
theorem k_trim {d : Nat} {s : Sn} {a1 : Int32} (hI : INV s) : SB2 d MX7_trim MX8_trim [vI a1] s := by
  obtain ⟨⟨⟨f, c, c8, wk⟩, h, ⟨g, ci, ci8, wi⟩, ⟨so, si, ce⟩, T, ⟨te, kt⟩, ⟨tp, nt⟩⟩, hC, hR, hP⟩ := hI
  obtain ⟨c1, c2, c3, c4, c5, c6, c7, c9, ca⟩ := id hC
  obtain ⟨⟨hG, h2, hwk⟩, ⟨hG1, h21, hwi⟩, hSQ, hCQ, hHQ, hkt, hTQ, hnt⟩ := id hP
  obtain ⟨hW, ⟨n7, hL⟩, hKD, hUC, hN2, hz⟩ := id hG
  dsimp only at c1 c2 c3 c4 c5 c6 c7 hG h2 hwk hG1 h21 hwi hSQ hCQ hHQ hkt hTQ hnt hW hL hKD hUC hN2 hz
  refine step2 (A := trA nt a1) (D' := ((f, c, c8, wk), h, (g, ci, ci8, wi), (so, si, ce), T, (te, kt), (tp, trN nt a1))) hR ?_ (fun t hR => ?_) ?_
  · refine (c7_trim (d := d + 7) hnt c7).to (fun v σ hv => ?_)
    obtain ⟨y, t, rfl, rfl, ey, hS, hF⟩ := hv
    have hK : Kp [21, 22] [] s t := hF.kp (fun r hr => by rcases hr with hr | hr <;> rw [hr] <;> decide)
    exact ⟨y, t, rfl, rfl, ey, ⟨RVL.kp (by decide) c1 hK (by decide) (by decide) (by decide) (by decide), (congrFun (hK.g (a := 10) (i := 0) (j := 0) (by decide) (by decide)) 9).trans c2, fun q => RVL.kp (by decide) (c3 q) hK (by decide) (by decide) (by decide) (by decide), c4.kp hK (by decide) (by decide), c5.kp hK (by decide) (by decide) (by decide) (by decide), c6.kp hK (by decide) (by decide), hS, c9.kp hK (by decide), ca.kp hK (by decide) (by decide)⟩, hK.kw (by decide) (by decide) (by decide) (by decide) (by decide)⟩
  · obtain ⟨r0, r3, r1, r2, r12, r13, r14, rT, r20, r32, r4, r6, rK, rB⟩ := id hR
    dsimp only at r0 r3 r1 r2 r12 r13 r14 rT r20 r32 r4 r6
    subst r0; subst r3; subst r1; subst r12; subst r13; subst r14; subst rT; subst r20; subst r4
    refine (c8_trim (d := d + 7) hnt r6).to (fun v σ hv => ?_)
    obtain ⟨y, u, rfl, rfl, ey, e40, hF⟩ := hv
    exact ⟨y, u, rfl, rfl, ey, ⟨hF.1 _ (by decide), by rw [e40]; exact upd_ne (by decide), hF.1 _ (by decide), fun q hq => (congrFun (hF.1 (41, 2, 0) (by decide)) q).trans (r2 q hq), hF.1 _ (by decide), hF.1 _ (by decide), hF.1 _ (by decide), by rw [hF.1 (41, 15, 0) (by decide), hF.1 (41, 16, 0) (by decide), hF.1 (41, 17, 0) (by decide), hF.1 (41, 18, 0) (by decide)], hF.1 _ (by decide), by rw [e40]; exact (upd_ne (by decide)).trans r32, hF.1 _ (by decide), by rw [e40]; exact upd_eq, rK.cg (hF.1 _ (by decide)) (hF.1 _ (by decide)), TB.cg rB (hF.1 _ (by decide))⟩, hF.kz (by decide)⟩
  · exact ⟨hP.1, hP.2.1, hSQ, hCQ, hHQ, hkt, hTQ, trN_le hnt⟩
theorem k_tell {d : Nat} {s : Sn} {a1 : Int32} (hI : INV s) : SB2 d MX7_tell MX8_tell [vI a1] s := by
  obtain ⟨⟨⟨f, c, c8, wk⟩, h, ⟨g, ci, ci8, wi⟩, ⟨so, si, ce⟩, T, ⟨te, kt⟩, ⟨tp, nt⟩⟩, hC, hR, hP⟩ := hI
  obtain ⟨c1, c2, c3, c4, c5, c6, c7, c9, ca⟩ := id hC
  obtain ⟨⟨hG, h2, hwk⟩, ⟨hG1, h21, hwi⟩, hSQ, hCQ, hHQ, hkt, hTQ, hnt⟩ := id hP
  obtain ⟨hW, ⟨n7, hL⟩, hKD, hUC, hN2, hz⟩ := id hG
  dsimp only at c1 c2 c3 c4 c5 c6 c7 hG h2 hwk hG1 h21 hwi hSQ hCQ hHQ hkt hTQ hnt hW hL hKD hUC hN2 hz
  refine step2 (A := teA kt) (D' := ((f, c, c8, wk), h, (g, ci, ci8, wi), (so, si, ce), T, (teF te kt a1, teK kt), (tp, nt))) hR ?_ (fun t hR => ?_) ?_
  · refine (c7_tell (d := d + 8) hkt c6).to (fun v σ hv => ?_)
    obtain ⟨y, t, rfl, rfl, ey, hS, e10, hF⟩ := hv
    have hK : Kp [10, 27] [] s t := hF.kp (fun r hr => by rcases hr with hr | hr <;> rw [hr] <;> decide)
    exact ⟨y, t, rfl, rfl, ey, ⟨RVL.kp (by decide) c1 hK (by decide) (by decide) (by decide) (by decide), by rw [e10]; exact (upd_ne (by decide)).trans c2, fun q => RVL.kp (by decide) (c3 q) hK (by decide) (by decide) (by decide) (by decide), c4.kp hK (by decide) (by decide), c5.kp hK (by decide) (by decide) (by decide) (by decide), hS, c7.kp hK (by decide) (by decide), c9.kp hK (by decide), ca.kp hK (by decide) (by decide)⟩, hK.kw (by decide) (by decide) (by decide) (by decide) (by decide)⟩
  · obtain ⟨r0, r3, r1, r2, r12, r13, r14, rT, r20, r32, r4, r6, rK, rB⟩ := id hR
    dsimp only at r0 r3 r1 r2 r12 r13 r14 rT r20 r32 r4 r6
    subst r0; subst r3; subst r1; subst r12; subst r13; subst r14; subst rT; subst r20; subst r4
    refine (c8_tell (d := d + 8) hkt r32).to (fun v σ hv => ?_)
    obtain ⟨y, u, rfl, rfl, ey, e20, e40, hF⟩ := hv
    exact ⟨y, u, rfl, rfl, ey, ⟨hF.1 _ (by decide), by rw [e40]; exact upd_ne (by decide), hF.1 _ (by decide), fun q hq => (congrFun (hF.1 (41, 2, 0) (by decide)) q).trans (r2 q hq), hF.1 _ (by decide), hF.1 _ (by decide), hF.1 _ (by decide), by rw [hF.1 (41, 15, 0) (by decide), hF.1 (41, 16, 0) (by decide), hF.1 (41, 17, 0) (by decide), hF.1 (41, 18, 0) (by decide)], e20, by rw [e40]; exact upd_eq, hF.1 _ (by decide), by rw [e40]; exact (upd_ne (by decide)).trans r6, rK.cg (hF.1 _ (by decide)) (hF.1 _ (by decide)), TB.cg rB (hF.1 _ (by decide))⟩, hF.kz (by decide)⟩
  · exact ⟨hP.1, hP.2.1, hSQ, hCQ, hHQ, teK_le hkt, hTQ, hnt⟩
theorem k_check {d : Nat} {s : Sn} {a1 : Int32} (hI : INV s) : SB2 d MX7_check MX8_check [vI a1] s := by
  obtain ⟨⟨⟨f, c, c8, wk⟩, h, ⟨g, ci, ci8, wi⟩, ⟨so, si, ce⟩, T, ⟨te, kt⟩, ⟨tp, nt⟩⟩, hC, hR, hP⟩ := hI
  obtain ⟨c1, c2, c3, c4, c5, c6, c7, c9, ca⟩ := id hC
  obtain ⟨⟨hG, h2, hwk⟩, ⟨hG1, h21, hwi⟩, hSQ, hCQ, hHQ, hkt, hTQ, hnt⟩ := id hP
  obtain ⟨hW, ⟨n7, hL⟩, hKD, hUC, hN2, hz⟩ := id hG
  dsimp only at c1 c2 c3 c4 c5 c6 c7 hG h2 hwk hG1 h21 hwi hSQ hCQ hHQ hkt hTQ hnt hW hL hKD hUC hN2 hz
  refine step2 (A := ckA te kt h g ci wi a1) (D' := ((f, c, c8, wk), h, (g, ci, ci8, wi), (so, si, ce), T, (te, 0), (tp, nt))) hR ?_ (fun t hR => ?_) ?_
  · rw [← c2]
    refine (c7_check (d := d + 3) (c := ci) (c8 := ci8) (f := g) (wk := wi) hkt c6 (fun q => c3 (by rw [← c2]; exact q)) hG1.1 h21 hwi).to (fun v σ hv => ?_)
    obtain ⟨y, t, rfl, rfl, ey, e10, hF⟩ := hv
    have hK : Kp [10, 36, 102] [] s t := FW.kp hF (fun r hr => by
        rcases hr with hr | hr
        · exact List.mem_cons_of_mem _ (by have := XQ_k r hr; revert this; generalize kq r = z; intro this; rcases List.mem_cons.mp this with q | q
                                           · rw [q]; decide
                                           · rw [List.mem_singleton.mp q]; decide)
        · rw [hr]; decide) (fun a ha z => by omega)
    exact ⟨y, t, rfl, rfl, ey, ⟨RVL.kp (by decide) c1 hK (by decide) (by decide) (by decide) (by decide), by rw [e10]; exact upd_ne (by decide), fun q => RVL.kp (by decide) (c3 (by rw [← c2]; exact q)) hK (by decide) (by decide) (by decide) (by decide), c4.kp hK (by decide) (by decide), c5.kp hK (by decide) (by decide) (by decide) (by decide), ⟨by rw [e10]; exact upd_eq, fun q hq => (congrFun (hK.g (a := 27) (i := 0) (j := 0) (by decide) (by decide)) q).trans (c6.2 q hq)⟩, c7.kp hK (by decide) (by decide), c9.kp hK (by decide), ca.kp hK (by decide) (by decide)⟩, hK.kw (by decide) (by decide) (by decide) (by decide) (by decide)⟩
  · obtain ⟨r0, r3, r1, r2, r12, r13, r14, rT, r20, r32, r4, r6, rK, rB⟩ := id hR
    dsimp only at r0 r3 r1 r2 r12 r13 r14 rT r20 r32 r4 r6
    subst r0; subst r3; subst r1; subst r12; subst r13; subst r14; subst rT; subst r20; subst r4
    have hz8 : HZ t := fun q hq => ⟨hz q hq, hG1.2.2.2.2.2 q hq, r2 q hq⟩
    refine (c8_check (d := d + 3) hz8 hkt r32 hG1.1.1 h21 hwi).to (fun v σ hv => ?_)
    obtain ⟨y, u, rfl, rfl, ey, e0, e40, e2, hF⟩ := hv
    exact ⟨y, u, rfl, rfl, ey, ⟨e0, by rw [e40]; exact upd_ne (by decide), hF.1 _ (by decide), e2, hF.1 _ (by decide), hF.1 _ (by decide), hF.1 _ (by decide), by rw [hF.1 (41, 15, 0) (by decide), hF.1 (41, 16, 0) (by decide), hF.1 (41, 17, 0) (by decide), hF.1 (41, 18, 0) (by decide)], hF.1 _ (by decide), by rw [e40]; exact upd_eq, hF.1 _ (by decide), by rw [e40]; exact (upd_ne (by decide)).trans r6, rK.cg (hF.1 _ (by decide)) (hF.1 _ (by decide)), TB.cg rB (hF.1 _ (by decide))⟩, hF.kz (by decide)⟩
  · exact ⟨hP.1, hP.2.1, hSQ, hCQ, hHQ, Nat.zero_le _, hTQ, hnt⟩
theorem k_keep {d : Nat} {s : Sn} (hI : INV s) : SB2 d MX7_keep MX8_keep [] s := by
  obtain ⟨⟨⟨f, c, c8, wk⟩, h, ⟨g, ci, ci8, wi⟩, ⟨so, si, ce⟩, T, ⟨te, kt⟩, ⟨tp, nt⟩⟩, hC, hR, hP⟩ := hI
  obtain ⟨c1, c2, c3, c4, c5, c6, c7, c9, ca⟩ := id hC
  obtain ⟨⟨hG, h2, hwk⟩, ⟨hG1, h21, hwi⟩, hSQ, hCQ, hHQ, hkt, hTQ, hnt⟩ := id hP
  obtain ⟨hW, ⟨n7, hL⟩, hKD, hUC, hN2, hz⟩ := id hG
  dsimp only at c1 c2 c3 c4 c5 c6 c7 hG h2 hwk hG1 h21 hwi hSQ hCQ hHQ hkt hTQ hnt hW hL hKD hUC hN2 hz
  refine step2 (A := f 1) (D' := ((f, c, c8, wk), 1, (f, c, c8, wk), (so, si, ce), T, (te, kt), (tp, nt))) hR ?_ (fun t hR => ?_) ?_
  · refine (c7_keep (d := d + 6) c1 hW.1.2.2.2.1).to (fun v σ hv => ?_)
    obtain ⟨y, t, rfl, rfl, ey, hV, e10, hF⟩ := hv
    have hK : Kp [101, 10] [1] s t := FW.kp hF (fun r hr => by
        rcases hr with hr | hr
        · have := XT_k (i := 1) (by decide) r hr; rw [List.mem_singleton.mp this]; decide
        · rw [hr]; decide) (fun a ha z => by rw [z]; decide)
    exact ⟨y, t, rfl, rfl, ey, ⟨RVL.kp (by decide) c1 hK (by decide) (by decide) (by decide) (by decide), by rw [e10]; exact upd_eq, fun _ => hV, c4.kp hK (by decide) (by decide), c5.kp hK (by decide) (by decide) (by decide) (by decide), ⟨by rw [e10]; exact (upd_ne (by decide)).trans c6.1, fun q hq => (congrFun (hK.g (a := 27) (i := 0) (j := 0) (by decide) (by decide)) q).trans (c6.2 q hq)⟩, c7.kp hK (by decide) (by decide), c9.kp hK (by decide), ca.kp hK (by decide) (by decide)⟩, hK.kw (by decide) (by decide) (by decide) (by decide) (by decide)⟩
  · obtain ⟨r0, r3, r1, r2, r12, r13, r14, rT, r20, r32, r4, r6, rK, rB⟩ := id hR
    dsimp only at r0 r3 r1 r2 r12 r13 r14 rT r20 r32 r4 r6
    subst r0; subst r3; subst r1; subst r12; subst r13; subst r14; subst rT; subst r20; subst r4
    have hz8 : HZ t := fun q hq => ⟨hz q hq, hG1.2.2.2.2.2 q hq, r2 q hq⟩
    refine (c8_keep (d := d + 7) hz8).to (fun v σ hv => ?_)
    obtain ⟨y, u, rfl, rfl, ey, e1, e40, hF⟩ := hv
    exact ⟨y, u, rfl, rfl, ey, ⟨hF.1 _ (by decide), by rw [e40]; exact upd_eq, e1, fun q hq => (congrFun (hF.1 (41, 2, 0) (by decide)) q).trans (r2 q hq), hF.1 _ (by decide), hF.1 _ (by decide), hF.1 _ (by decide), by rw [hF.1 (41, 15, 0) (by decide), hF.1 (41, 16, 0) (by decide), hF.1 (41, 17, 0) (by decide), hF.1 (41, 18, 0) (by decide)], hF.1 _ (by decide), by rw [e40]; exact (upd_ne (by decide)).trans r32, hF.1 _ (by decide), by rw [e40]; exact (upd_ne (by decide)).trans r6, rK.cg (hF.1 _ (by decide)) (hF.1 _ (by decide)), TB.cg rB (hF.1 _ (by decide))⟩, hF.kz (by decide)⟩
  · exact ⟨hP.1, hP.1, hP.2.2⟩
theorem k_back {d : Nat} {s : Sn} (hI : INV s) : SB2 d MX7_back MX8_back [] s := by
  obtain ⟨⟨⟨f, c, c8, wk⟩, h, ⟨g, ci, ci8, wi⟩, ⟨so, si, ce⟩, T, ⟨te, kt⟩, ⟨tp, nt⟩⟩, hC, hR, hP⟩ := hI
  obtain ⟨c1, c2, c3, c4, c5, c6, c7, c9, ca⟩ := id hC
  obtain ⟨⟨hG, h2, hwk⟩, ⟨hG1, h21, hwi⟩, hSQ, hCQ, hHQ, hkt, hTQ, hnt⟩ := id hP
  obtain ⟨hW, ⟨n7, hL⟩, hKD, hUC, hN2, hz⟩ := id hG
  dsimp only at c1 c2 c3 c4 c5 c6 c7 hG h2 hwk hG1 h21 hwi hSQ hCQ hHQ hkt hTQ hnt hW hL hKD hUC hN2 hz
  by_cases h0 : h = 0
  · refine step2 (A := -1000000002) (D' := ((f, c, c8, wk), h, (g, ci, ci8, wi), (so, si, ce), T, (te, kt), (tp, nt))) hR ?_ (fun t hR => ?_) hP
    · refine (c7_backNo (d := d + 6) (by rw [c2]; exact h0)).to (fun v σ hv => ?_)
      obtain ⟨y, t, rfl, rfl, ey, et⟩ := hv
      subst et
      exact ⟨y, _, rfl, rfl, ey, hC, (Kp.rf (l := []) (J := [])).kw (by decide) (by decide) (by decide) (by decide) (by decide)⟩
    · obtain ⟨r0, r3, r1, r2, r12, r13, r14, rT, r20, r32, r4, r6, rK, rB⟩ := id hR
      dsimp only at r0 r3 r1
      have hz8 : HZ t := fun q hq => ⟨by rw [r0]; exact hz q hq, by rw [r1]; exact hG1.2.2.2.2.2 q hq, r2 q hq⟩
      refine (c8_back (d := d + 7) hz8).to (fun v σ hv => ?_)
      obtain ⟨y, u, rfl, rfl, ey, e0, hF⟩ := hv
      rw [r3, h0] at ey e0
      exact ⟨y, u, rfl, rfl, ey.trans (if_pos rfl), hR.r1 hF (by decide) (e0.trans ((if_pos rfl).trans r0)), hF.kz (by decide)⟩
  · refine step2 (A := g 1) (D' := ((g, ci, ci8, wi), h, (g, ci, ci8, wi), (so, si, ce), T, (te, kt), (tp, nt))) hR ?_ (fun t hR => ?_) ?_
    · refine (c7_back (d := d + 6) (c3 h0) hG1.1.1.2.2.2.1 (by rw [c2]; exact h0)).to (fun v σ hv => ?_)
      obtain ⟨y, t, rfl, rfl, ey, hV, hF⟩ := hv
      have hK : Kp [100] [0] s t := FW.kp hF (fun r hr => by have := XT_k (i := 0) (by decide) r hr; rw [List.mem_singleton.mp this]; decide) (fun a ha z => by rw [z]; decide)
      exact ⟨y, t, rfl, rfl, ey, hC.k1 hK (by decide) (by decide) hV, hK.kw (by decide) (by decide) (by decide) (by decide) (by decide)⟩
    · obtain ⟨r0, r3, r1, r2, r12, r13, r14, rT, r20, r32, r4, r6, rK, rB⟩ := id hR
      dsimp only at r0 r3 r1
      have hz8 : HZ t := fun q hq => ⟨by rw [r0]; exact hz q hq, by rw [r1]; exact hG1.2.2.2.2.2 q hq, r2 q hq⟩
      refine (c8_back (d := d + 7) hz8).to (fun v σ hv => ?_)
      obtain ⟨y, u, rfl, rfl, ey, e0, hF⟩ := hv
      rw [r3] at ey e0
      exact ⟨y, u, rfl, rfl, ey.trans ((if_neg h0).trans (by rw [r1])), hR.r1 hF (by decide) (e0.trans ((if_neg h0).trans r1)), hF.kz (by decide)⟩
    · exact ⟨hP.2.1, hP.2⟩
theorem k_text {d : Nat} {s : Sn} (hI : INV s) : SB2 d MX7_text MX8_text [] s := by
  obtain ⟨⟨⟨f, c, c8, wk⟩, h, ⟨g, ci, ci8, wi⟩, ⟨so, si, ce⟩, T, ⟨te, kt⟩, ⟨tp, nt⟩⟩, hC, hR, hP⟩ := hI
  obtain ⟨c1, c2, c3, c4, c5, c6, c7, c9, ca⟩ := id hC
  obtain ⟨⟨hG, h2, hwk⟩, ⟨hG1, h21, hwi⟩, hSQ, hCQ, hHQ, hkt, hTQ, hnt⟩ := id hP
  obtain ⟨hW, ⟨n7, hL⟩, hKD, hUC, hN2, hz⟩ := id hG
  dsimp only at c1 c2 c3 c4 c5 c6 c7 hG h2 hwk hG1 h21 hwi hSQ hCQ hHQ hkt hTQ hnt hW hL hKD hUC hN2 hz
  obtain ⟨tb, hTB⟩ := hR.2.2.2.2.2.2.2.2.2.2.2.2.2
  generalize ecf : s.1 (41, 7, 0) = cf
  generalize ewf : s.1 (41, 8, 0) = wf
  have e8 : s.1 (11, 0, 0) 8 = nI c8 := (c1.1.1.sc 8 (by decide)).trans hW.1.2.2.1
  have hc := (c7_textS (d := d) (cf := cf) (wf := wf) (te := tb) hnt c7 hTQ ca hW.1.2.2.2.1 e8)
  refine hc.to (fun v σ hv => ?_)
  obtain ⟨y, t, rfl, rfl, hq⟩ := hv
  obtain ⟨ey, hV, hT, hK⟩ := CT_of hnt c1 hG c7 hq
  have hKw : Kw s t := hK.kw (by decide) (by decide) (by decide) (by decide) (by decide)
  refine ⟨y, t, rfl, rfl, ⟨hKw.1 _ (Or.inl rfl), hKw.2.1⟩, ?_⟩
  have hR2 := hR.kw hKw
  obtain ⟨r0, r3, r1, r2, r12, r13, r14, rT, r20, r32, r4, r6, rK, rB⟩ := id hR2
  dsimp only at r0 r3 r1 r2 r12 r13 r14 rT r20 r32 r4 r6
  have e7 : t.1 (41, 7, 0) = cf := (hKw.1 (41, 7, 0) (Or.inr ⟨by show 40 ≤ 41; decide, by show 41 ≤ 43; decide⟩)).trans ecf
  have e9 : t.1 (41, 8, 0) = wf := (hKw.1 (41, 8, 0) (Or.inr ⟨by show 40 ≤ 41; decide, by show 41 ≤ 43; decide⟩)).trans ewf
  have hTB2 : TB t tb := fun k hk => by rw [hKw.1 (43, 0, 0) (Or.inr ⟨by show 40 ≤ 43; decide, by show 43 ≤ 43; decide⟩)]; exact hTB k hk
  refine (c8_text (d := d + 4) (tp := tp) (n := nt) (c8 := c8) hnt r4 r6 rK hTB2 hW.1.2.2.2.1 (by rw [r0]; exact hW.1.2.2.1)).to (fun v σ hv => ?_)
  obtain ⟨z, u, rfl, rfl, ez, e0, e6, e40, hB2, hF⟩ := hv
  rw [e7, e9] at ez e0
  rw [r0] at e0
  have hZ : Kz t u := hF.kz (by decide)
  have hKc := hZ.kp
  refine ⟨z, u, rfl, rfl, ez.trans ey.symm, ⟨((txG f (txR tp nt cf wf tb) c8, c, txC (txR tp nt cf wf tb) c8, wk), h, (g, ci, ci8, wi), (so, si, ce), T, (te, kt), (tp, 0)), ?_, ?_, ?_⟩, Ku.of hKw hZ⟩
  · have hC2 : CJ t ((txG f (txR tp nt cf wf tb) c8, c, txC (txR tp nt cf wf tb) c8, wk), h, (g, ci, ci8, wi), (so, si, ce), T, (te, kt), (tp, 0)) := ⟨hV, (congrFun (hK.g (a := 10) (i := 0) (j := 0) (by decide) (by decide)) 9).trans c2, fun q => RVL.kp (by decide) (c3 q) hK (by decide) (by decide) (by decide) (by decide), c4.kp hK (by decide) (by decide), c5.kp hK (by decide) (by decide) (by decide) (by decide), c6.kp hK (by decide) (by decide), hT, c9.kp hK (by decide), ca.kp hK (by decide) (by decide)⟩
    exact hC2.k0 hKc (by decide)
  · refine ⟨e0, (e40 3 (Or.inl rfl)).trans r3, (hF.1 _ (by decide)).trans r1, fun q hq => (congrFun (hF.1 (41, 2, 0) (by decide)) q).trans (r2 q hq), (hF.1 _ (by decide)).trans r12, (hF.1 _ (by decide)).trans r13, (hF.1 _ (by decide)).trans r14, ?_, (hF.1 _ (by decide)).trans r20, (e40 32 (Or.inr rfl)).trans r32, (hF.1 _ (by decide)).trans r4, e6, rK.cg (hF.1 _ (by decide)) (hF.1 _ (by decide)), hB2⟩
    rw [hF.1 (41, 15, 0) (by decide), hF.1 (41, 16, 0) (by decide), hF.1 (41, 17, 0) (by decide), hF.1 (41, 18, 0) (by decide)]
    exact rT
  · exact ⟨⟨hG.tx hnt, txG_2.trans h2, hwk⟩, hP.2.1, hSQ, hCQ, hHQ, hkt, hTQ, Nat.zero_le _⟩
