/-! THE PURE PART, 95: calls that only tell -/
theorem k_told {d : Nat} {s : Sn} {a1 a2 : Int32} (hI : INV s) : SB2 d MX7_told MX8_told [vI a1, vI a2] s := by
  obtain ⟨⟨⟨f, c, c8, wk⟩, h, ⟨g, ci, ci8, wi⟩, ⟨so, si, ce⟩, T, ⟨te, kt⟩, ⟨tp, nt⟩⟩, hC, hR, hP⟩ := hI
  obtain ⟨c1, c2, c3, c4, c5, c6, c7, c9, ca⟩ := id hC
  obtain ⟨⟨hG, h2, hwk⟩, ⟨hG1, h21, hwi⟩, hSQ, hCQ, hHQ, hkt, hTQ, hnt⟩ := id hP
  obtain ⟨hW, ⟨n7, hL⟩, hKD, hUC, hN2, hz⟩ := id hG
  dsimp only at c1 c2 c3 c4 c5 c6 c7 hG h2 hwk hG1 h21 hwi hSQ hCQ hHQ hkt hTQ hnt hW hL hKD hUC hN2 hz
  refine step2 (A := tdA f c a1 a2) (D' := ((f, c, c8, wk), h, (g, ci, ci8, wi), (so, si, ce), T, (te, kt), (tp, nt))) hR ?_ (fun t hR => ?_) ?_
  · refine (c7_told (d := d + 5) c1.1 hW c1.2.1).to (fun v σ hv => ?_)
    obtain ⟨y, t, rfl, rfl, ey, hF⟩ := hv
    have hK := hF.kp X36_k
    exact ⟨y, t, rfl, rfl, ey, hC.k0 hK (by decide), hK.kw (by decide) (by decide) (by decide) (by decide) (by decide)⟩
  · obtain ⟨r0, r3, r1, r2, r12, r13, r14, rT, r20, r32, r4, r6, rK, rB⟩ := id hR
    dsimp only at r0 r3 r1 r2 r12 r13 r14 rT r20 r32 r4 r6
    subst r0; subst r3; subst r1; subst r12; subst r13; subst r14; subst rT; subst r20; subst r4
    refine (c8_told (d := d + 5) hW.1).to (fun v σ hv => ?_)
    obtain ⟨y, u, rfl, rfl, ey, hF⟩ := hv
    exact ⟨y, u, rfl, rfl, ey, hR.r1 hF (by decide) (hF.1 _ (by decide)), hF.kz (by decide)⟩
  · exact hP
theorem k_as {d : Nat} {s : Sn} {a1 a2 : Int32} (hI : INV s) : SB2 d MX7_as MX8_as [vI a1, vI a2] s := by
  obtain ⟨⟨⟨f, c, c8, wk⟩, h, ⟨g, ci, ci8, wi⟩, ⟨so, si, ce⟩, T, ⟨te, kt⟩, ⟨tp, nt⟩⟩, hC, hR, hP⟩ := hI
  obtain ⟨c1, c2, c3, c4, c5, c6, c7, c9, ca⟩ := id hC
  obtain ⟨⟨hG, h2, hwk⟩, ⟨hG1, h21, hwi⟩, hSQ, hCQ, hHQ, hkt, hTQ, hnt⟩ := id hP
  obtain ⟨hW, ⟨n7, hL⟩, hKD, hUC, hN2, hz⟩ := id hG
  dsimp only at c1 c2 c3 c4 c5 c6 c7 hG h2 hwk hG1 h21 hwi hSQ hCQ hHQ hkt hTQ hnt hW hL hKD hUC hN2 hz
  refine step2 (A := asA f c a1 a2) (D' := ((f, c, c8, wk), h, (g, ci, ci8, wi), (so, si, ce), T, (te, kt), (tp, nt))) hR ?_ (fun t hR => ?_) ?_
  · refine (c7_as (d := d + 5) c1.1 c9 hKD).to (fun v σ hv => ?_)
    obtain ⟨y, t, rfl, rfl, ey, et⟩ := hv
    subst et
    exact ⟨y, _, rfl, rfl, ey, hC, (Kp.rf (l := []) (J := [])).kw (by decide) (by decide) (by decide) (by decide) (by decide)⟩
  · obtain ⟨r0, r3, r1, r2, r12, r13, r14, rT, r20, r32, r4, r6, rK, rB⟩ := id hR
    dsimp only at r0 r3 r1 r2 r12 r13 r14 rT r20 r32 r4 r6
    subst r0; subst r3; subst r1; subst r12; subst r13; subst r14; subst rT; subst r20; subst r4
    refine (c8_as (d := d + 6) (c := c) hW.1.2.1 hW.1.1).to (fun v σ hv => ?_)
    obtain ⟨y, u, rfl, rfl, ey, et⟩ := hv
    subst et
    exact ⟨y, _, rfl, rfl, ey, hR, (Fr.rf (X := [])).kz (by decide)⟩
  · exact hP
theorem k_read {d : Nat} {s : Sn} {a1 : Int32} (hI : INV s) : SB2 d MX7_read MX8_read [vI a1] s := by
  obtain ⟨⟨⟨f, c, c8, wk⟩, h, ⟨g, ci, ci8, wi⟩, ⟨so, si, ce⟩, T, ⟨te, kt⟩, ⟨tp, nt⟩⟩, hC, hR, hP⟩ := hI
  obtain ⟨c1, c2, c3, c4, c5, c6, c7, c9, ca⟩ := id hC
  obtain ⟨⟨hG, h2, hwk⟩, ⟨hG1, h21, hwi⟩, hSQ, hCQ, hHQ, hkt, hTQ, hnt⟩ := id hP
  obtain ⟨hW, ⟨n7, hL⟩, hKD, hUC, hN2, hz⟩ := id hG
  dsimp only at c1 c2 c3 c4 c5 c6 c7 hG h2 hwk hG1 h21 hwi hSQ hCQ hHQ hkt hTQ hnt hW hL hKD hUC hN2 hz
  refine step2 (A := redA f c a1) (D' := ((f, c, c8, wk), h, (g, ci, ci8, wi), (so, si, ce), T, (te, kt), (tp, nt))) hR ?_ (fun t hR => ?_) ?_
  · refine (c7_read (d := d + 7) c1.1 hUC.1).to (fun v σ hv => ?_)
    obtain ⟨y, t, rfl, rfl, ey, et⟩ := hv
    subst et
    exact ⟨y, _, rfl, rfl, ey, hC, (Kp.rf (l := []) (J := [])).kw (by decide) (by decide) (by decide) (by decide) (by decide)⟩
  · obtain ⟨r0, r3, r1, r2, r12, r13, r14, rT, r20, r32, r4, r6, rK, rB⟩ := id hR
    dsimp only at r0 r3 r1 r2 r12 r13 r14 rT r20 r32 r4 r6
    subst r0; subst r3; subst r1; subst r12; subst r13; subst r14; subst rT; subst r20; subst r4
    refine (c8_read (d := d + 6) (c := c) hW.1.2.1 hW.1.1).to (fun v σ hv => ?_)
    obtain ⟨y, u, rfl, rfl, ey, et⟩ := hv
    subst et
    exact ⟨y, _, rfl, rfl, ey, hR, (Fr.rf (X := [])).kz (by decide)⟩
  · exact hP
theorem k_river {d : Nat} {s : Sn} {a1 : Int32} (hI : INV s) : SB2 d MX7_river MX8_river [vI a1] s := by
  obtain ⟨⟨⟨f, c, c8, wk⟩, h, ⟨g, ci, ci8, wi⟩, ⟨so, si, ce⟩, T, ⟨te, kt⟩, ⟨tp, nt⟩⟩, hC, hR, hP⟩ := hI
  obtain ⟨c1, c2, c3, c4, c5, c6, c7, c9, ca⟩ := id hC
  obtain ⟨⟨hG, h2, hwk⟩, ⟨hG1, h21, hwi⟩, hSQ, hCQ, hHQ, hkt, hTQ, hnt⟩ := id hP
  obtain ⟨hW, ⟨n7, hL⟩, hKD, hUC, hN2, hz⟩ := id hG
  dsimp only at c1 c2 c3 c4 c5 c6 c7 hG h2 hwk hG1 h21 hwi hSQ hCQ hHQ hkt hTQ hnt hW hL hKD hUC hN2 hz
  refine step2 (A := rvA f n7 c a1) (D' := ((f, c, c8, wk), h, (g, ci, ci8, wi), (so, si, ce), T, (te, kt), (tp, nt))) hR ?_ (fun t hR => ?_) ?_
  · refine (c7_river (d := d + 4) c1.1 hW.1.2.2.2.2.2 hL.1 hL.2.1 hL.2.2).to (fun v σ hv => ?_)
    obtain ⟨y, t, rfl, rfl, ey, hV, hF⟩ := hv
    have hK := hF.kp XR_k
    exact ⟨y, t, rfl, rfl, ey, hC.k1 hK (by decide) (by decide) (c1.hi hV hF XR_34 HI.rf), hK.kw (by decide) (by decide) (by decide) (by decide) (by decide)⟩
  · obtain ⟨r0, r3, r1, r2, r12, r13, r14, rT, r20, r32, r4, r6, rK, rB⟩ := id hR
    dsimp only at r0 r3 r1 r2 r12 r13 r14 rT r20 r32 r4 r6
    subst r0; subst r3; subst r1; subst r12; subst r13; subst r14; subst rT; subst r20; subst r4
    refine (c8_river (d := d + 5) hL.2.1 hL.1 hW.1.2.1 hW.1.1).to (fun v σ hv => ?_)
    obtain ⟨y, u, rfl, rfl, ey, et⟩ := hv
    subst et
    exact ⟨y, _, rfl, rfl, ey, hR, (Fr.rf (X := [])).kz (by decide)⟩
  · exact hP
theorem k_behind {d : Nat} {s : Sn} {a1 a2 : Int32} (hI : INV s) : SB2 d MX7_behind MX8_behind [vI a1, vI a2] s := by
  obtain ⟨⟨⟨f, c, c8, wk⟩, h, ⟨g, ci, ci8, wi⟩, ⟨so, si, ce⟩, T, ⟨te, kt⟩, ⟨tp, nt⟩⟩, hC, hR, hP⟩ := hI
  obtain ⟨c1, c2, c3, c4, c5, c6, c7, c9, ca⟩ := id hC
  obtain ⟨⟨hG, h2, hwk⟩, ⟨hG1, h21, hwi⟩, hSQ, hCQ, hHQ, hkt, hTQ, hnt⟩ := id hP
  obtain ⟨hW, ⟨n7, hL⟩, hKD, hUC, hN2, hz⟩ := id hG
  dsimp only at c1 c2 c3 c4 c5 c6 c7 hG h2 hwk hG1 h21 hwi hSQ hCQ hHQ hkt hTQ hnt hW hL hKD hUC hN2 hz
  refine step2 (A := bhA f n7 c a1 a2) (D' := ((f, c, c8, wk), h, (g, ci, ci8, wi), (so, si, ce), T, (te, kt), (tp, nt))) hR ?_ (fun t hR => ?_) ?_
  · refine (c7_behind (d := d + 2) c1 hW hL).to (fun v σ hv => ?_)
    obtain ⟨y, t, rfl, rfl, ey, hF⟩ := hv
    have hK := FW.kp (J := []) hF XQ_k (fun a ha z => by omega)
    exact ⟨y, t, rfl, rfl, ey, hC.k0 hK (by decide), hK.kw (by decide) (by decide) (by decide) (by decide) (by decide)⟩
  · obtain ⟨r0, r3, r1, r2, r12, r13, r14, rT, r20, r32, r4, r6, rK, rB⟩ := id hR
    dsimp only at r0 r3 r1 r2 r12 r13 r14 rT r20 r32 r4 r6
    subst r0; subst r3; subst r1; subst r12; subst r13; subst r14; subst rT; subst r20; subst r4
    refine (c8_behind (d := d + 2) hW.1 hL).to (fun v σ hv => ?_)
    obtain ⟨y, u, rfl, rfl, ey, e0, hF⟩ := hv
    exact ⟨y, u, rfl, rfl, ey, hR.r1 hF (by decide) e0, hF.kz (by decide)⟩
  · exact hP
theorem k_whole {d : Nat} {s : Sn} (hI : INV s) : SB2 d MX7_whole MX8_whole [] s := by
  obtain ⟨⟨⟨f, c, c8, wk⟩, h, ⟨g, ci, ci8, wi⟩, ⟨so, si, ce⟩, T, ⟨te, kt⟩, ⟨tp, nt⟩⟩, hC, hR, hP⟩ := hI
  obtain ⟨c1, c2, c3, c4, c5, c6, c7, c9, ca⟩ := id hC
  obtain ⟨⟨hG, h2, hwk⟩, ⟨hG1, h21, hwi⟩, hSQ, hCQ, hHQ, hkt, hTQ, hnt⟩ := id hP
  obtain ⟨hW, ⟨n7, hL⟩, hKD, hUC, hN2, hz⟩ := id hG
  dsimp only at c1 c2 c3 c4 c5 c6 c7 hG h2 hwk hG1 h21 hwi hSQ hCQ hHQ hkt hTQ hnt hW hL hKD hUC hN2 hz
  refine step2 (A := whG n7 c 201 0 f) (D' := ((f, c, c8, wk), h, (g, ci, ci8, wi), (so, si, ce), T, (te, kt), (tp, nt))) hR ?_ (fun t hR => ?_) ?_
  · refine (c7_whole (d := d + 3) c1 hW hL).to (fun v σ hv => ?_)
    obtain ⟨y, t, rfl, rfl, ey, hF⟩ := hv
    have hK := FW.kp (J := []) hF XQ_k (fun a ha z => by omega)
    exact ⟨y, t, rfl, rfl, ey, hC.k0 hK (by decide), hK.kw (by decide) (by decide) (by decide) (by decide) (by decide)⟩
  · obtain ⟨r0, r3, r1, r2, r12, r13, r14, rT, r20, r32, r4, r6, rK, rB⟩ := id hR
    dsimp only at r0 r3 r1 r2 r12 r13 r14 rT r20 r32 r4 r6
    subst r0; subst r3; subst r1; subst r12; subst r13; subst r14; subst rT; subst r20; subst r4
    refine (c8_whole (d := d + 3) hW.1 hL).to (fun v σ hv => ?_)
    obtain ⟨y, u, rfl, rfl, ey, e0, hF⟩ := hv
    exact ⟨y, u, rfl, rfl, ey, hR.r1 hF (by decide) e0, hF.kz (by decide)⟩
  · exact hP
theorem k_frees {d : Nat} {s : Sn} {a1 a2 : Int32} (hI : INV s) : SB2 d MX7_frees MX8_frees [vI a1, vI a2] s := by
  obtain ⟨⟨⟨f, c, c8, wk⟩, h, ⟨g, ci, ci8, wi⟩, ⟨so, si, ce⟩, T, ⟨te, kt⟩, ⟨tp, nt⟩⟩, hC, hR, hP⟩ := hI
  obtain ⟨c1, c2, c3, c4, c5, c6, c7, c9, ca⟩ := id hC
  obtain ⟨⟨hG, h2, hwk⟩, ⟨hG1, h21, hwi⟩, hSQ, hCQ, hHQ, hkt, hTQ, hnt⟩ := id hP
  obtain ⟨hW, ⟨n7, hL⟩, hKD, hUC, hN2, hz⟩ := id hG
  dsimp only at c1 c2 c3 c4 c5 c6 c7 hG h2 hwk hG1 h21 hwi hSQ hCQ hHQ hkt hTQ hnt hW hL hKD hUC hN2 hz
  refine step2 (A := frA f c a1 a2) (D' := ((f, c, c8, wk), h, (g, ci, ci8, wi), (so, si, ce), T, (te, kt), (tp, nt))) hR ?_ (fun t hR => ?_) ?_
  · refine (c7_frees (d := d + 2) c1 hW).to (fun v σ hv => ?_)
    obtain ⟨y, t, rfl, rfl, ey, hF⟩ := hv
    have hK := FW.kp (J := []) hF XQ_k (fun a ha z => by omega)
    exact ⟨y, t, rfl, rfl, ey, hC.k0 hK (by decide), hK.kw (by decide) (by decide) (by decide) (by decide) (by decide)⟩
  · obtain ⟨r0, r3, r1, r2, r12, r13, r14, rT, r20, r32, r4, r6, rK, rB⟩ := id hR
    dsimp only at r0 r3 r1 r2 r12 r13 r14 rT r20 r32 r4 r6
    subst r0; subst r3; subst r1; subst r12; subst r13; subst r14; subst rT; subst r20; subst r4
    refine (c8_frees (d := d + 1) hW.1).to (fun v σ hv => ?_)
    obtain ⟨y, u, rfl, rfl, ey, e0, hF⟩ := hv
    exact ⟨y, u, rfl, rfl, ey, hR.r1 hF (by decide) e0, hF.kz (by decide)⟩
  · exact hP
theorem k_lost {d : Nat} {s : Sn} {a1 : Int32} (hI : INV s) : SB2 d MX7_lost MX8_lost [vI a1] s := by
  obtain ⟨⟨⟨f, c, c8, wk⟩, h, ⟨g, ci, ci8, wi⟩, ⟨so, si, ce⟩, T, ⟨te, kt⟩, ⟨tp, nt⟩⟩, hC, hR, hP⟩ := hI
  obtain ⟨c1, c2, c3, c4, c5, c6, c7, c9, ca⟩ := id hC
  obtain ⟨⟨hG, h2, hwk⟩, ⟨hG1, h21, hwi⟩, hSQ, hCQ, hHQ, hkt, hTQ, hnt⟩ := id hP
  obtain ⟨hW, ⟨n7, hL⟩, hKD, hUC, hN2, hz⟩ := id hG
  dsimp only at c1 c2 c3 c4 c5 c6 c7 hG h2 hwk hG1 h21 hwi hSQ hCQ hHQ hkt hTQ hnt hW hL hKD hUC hN2 hz
  refine step2 (A := lsA f n7 c a1) (D' := ((f, c, c8, wk), h, (g, ci, ci8, wi), (so, si, ce), T, (te, kt), (tp, nt))) hR ?_ (fun t hR => ?_) ?_
  · refine (c7_lost (d := d + 2) c1 hW hL).to (fun v σ hv => ?_)
    obtain ⟨y, t, rfl, rfl, ey, hF⟩ := hv
    have hK := FW.kp (J := []) hF XQ_k (fun a ha z => by omega)
    exact ⟨y, t, rfl, rfl, ey, hC.k0 hK (by decide), hK.kw (by decide) (by decide) (by decide) (by decide) (by decide)⟩
  · obtain ⟨r0, r3, r1, r2, r12, r13, r14, rT, r20, r32, r4, r6, rK, rB⟩ := id hR
    dsimp only at r0 r3 r1 r2 r12 r13 r14 rT r20 r32 r4 r6
    subst r0; subst r3; subst r1; subst r12; subst r13; subst r14; subst rT; subst r20; subst r4
    refine (c8_lost (d := d + 1) hW.1 hL).to (fun v σ hv => ?_)
    obtain ⟨y, u, rfl, rfl, ey, e0, hF⟩ := hv
    exact ⟨y, u, rfl, rfl, ey, hR.r1 hF (by decide) e0, hF.kz (by decide)⟩
  · exact hP
theorem k_wider {d : Nat} {s : Sn} {a1 a2 : Int32} (hI : INV s) : SB2 d MX7_wider MX8_wider [vI a1, vI a2] s := by
  obtain ⟨⟨⟨f, c, c8, wk⟩, h, ⟨g, ci, ci8, wi⟩, ⟨so, si, ce⟩, T, ⟨te, kt⟩, ⟨tp, nt⟩⟩, hC, hR, hP⟩ := hI
  obtain ⟨c1, c2, c3, c4, c5, c6, c7, c9, ca⟩ := id hC
  obtain ⟨⟨hG, h2, hwk⟩, ⟨hG1, h21, hwi⟩, hSQ, hCQ, hHQ, hkt, hTQ, hnt⟩ := id hP
  obtain ⟨hW, ⟨n7, hL⟩, hKD, hUC, hN2, hz⟩ := id hG
  dsimp only at c1 c2 c3 c4 c5 c6 c7 hG h2 hwk hG1 h21 hwi hSQ hCQ hHQ hkt hTQ hnt hW hL hKD hUC hN2 hz
  refine step2 (A := wiA f a1 a2) (D' := ((f, c, c8, wk), h, (g, ci, ci8, wi), (so, si, ce), T, (te, kt), (tp, nt))) hR ?_ (fun t hR => ?_) ?_
  · refine (c7_wider (d := d + 2) c1 hW).to (fun v σ hv => ?_)
    obtain ⟨y, t, rfl, rfl, ey, hF⟩ := hv
    have hK := FW.kp (J := []) hF XQ_k (fun a ha z => by omega)
    exact ⟨y, t, rfl, rfl, ey, hC.k0 hK (by decide), hK.kw (by decide) (by decide) (by decide) (by decide) (by decide)⟩
  · obtain ⟨r0, r3, r1, r2, r12, r13, r14, rT, r20, r32, r4, r6, rK, rB⟩ := id hR
    dsimp only at r0 r3 r1 r2 r12 r13 r14 rT r20 r32 r4 r6
    subst r0; subst r3; subst r1; subst r12; subst r13; subst r14; subst rT; subst r20; subst r4
    refine (c8_wider (d := d + 1) hW.1).to (fun v σ hv => ?_)
    obtain ⟨y, u, rfl, rfl, ey, e0, hF⟩ := hv
    exact ⟨y, u, rfl, rfl, ey, hR.r1 hF (by decide) e0, hF.kz (by decide)⟩
  · exact hP
theorem k_opened {d : Nat} {s : Sn} {a1 : Int32} (hI : INV s) : SB2 d MX7_opened MX8_opened [vI a1] s := by
  obtain ⟨⟨⟨f, c, c8, wk⟩, h, ⟨g, ci, ci8, wi⟩, ⟨so, si, ce⟩, T, ⟨te, kt⟩, ⟨tp, nt⟩⟩, hC, hR, hP⟩ := hI
  obtain ⟨c1, c2, c3, c4, c5, c6, c7, c9, ca⟩ := id hC
  obtain ⟨⟨hG, h2, hwk⟩, ⟨hG1, h21, hwi⟩, hSQ, hCQ, hHQ, hkt, hTQ, hnt⟩ := id hP
  obtain ⟨hW, ⟨n7, hL⟩, hKD, hUC, hN2, hz⟩ := id hG
  dsimp only at c1 c2 c3 c4 c5 c6 c7 hG h2 hwk hG1 h21 hwi hSQ hCQ hHQ hkt hTQ hnt hW hL hKD hUC hN2 hz
  refine step2 (A := opA f a1) (D' := ((f, c, c8, wk), h, (g, ci, ci8, wi), (so, si, ce), T, (te, kt), (tp, nt))) hR ?_ (fun t hR => ?_) ?_
  · refine (c7_opened (d := d + 2) c1 hW).to (fun v σ hv => ?_)
    obtain ⟨y, t, rfl, rfl, ey, hF⟩ := hv
    have hK := FW.kp (J := []) hF XQ_k (fun a ha z => by omega)
    exact ⟨y, t, rfl, rfl, ey, hC.k0 hK (by decide), hK.kw (by decide) (by decide) (by decide) (by decide) (by decide)⟩
  · obtain ⟨r0, r3, r1, r2, r12, r13, r14, rT, r20, r32, r4, r6, rK, rB⟩ := id hR
    dsimp only at r0 r3 r1 r2 r12 r13 r14 rT r20 r32 r4 r6
    subst r0; subst r3; subst r1; subst r12; subst r13; subst r14; subst rT; subst r20; subst r4
    refine (c8_opened (d := d + 1) hW.1).to (fun v σ hv => ?_)
    obtain ⟨y, u, rfl, rfl, ey, e0, hF⟩ := hv
    exact ⟨y, u, rfl, rfl, ey, hR.r1 hF (by decide) e0, hF.kz (by decide)⟩
  · exact hP
theorem k_rolled {d : Nat} {s : Sn} {a1 a2 : Int32} (hI : INV s) : SB2 d MX7_rolled MX8_rolled [vI a1, vI a2] s := by
  obtain ⟨⟨⟨f, c, c8, wk⟩, h, ⟨g, ci, ci8, wi⟩, ⟨so, si, ce⟩, T, ⟨te, kt⟩, ⟨tp, nt⟩⟩, hC, hR, hP⟩ := hI
  obtain ⟨c1, c2, c3, c4, c5, c6, c7, c9, ca⟩ := id hC
  obtain ⟨⟨hG, h2, hwk⟩, ⟨hG1, h21, hwi⟩, hSQ, hCQ, hHQ, hkt, hTQ, hnt⟩ := id hP
  obtain ⟨hW, ⟨n7, hL⟩, hKD, hUC, hN2, hz⟩ := id hG
  dsimp only at c1 c2 c3 c4 c5 c6 c7 hG h2 hwk hG1 h21 hwi hSQ hCQ hHQ hkt hTQ hnt hW hL hKD hUC hN2 hz
  refine step2 (A := rlA f c a1 a2) (D' := ((f, c, c8, wk), h, (g, ci, ci8, wi), (so, si, ce), T, (te, kt), (tp, nt))) hR ?_ (fun t hR => ?_) ?_
  · refine (c7_rolled (d := d + 2) c1 hW).to (fun v σ hv => ?_)
    obtain ⟨y, t, rfl, rfl, ey, hF⟩ := hv
    have hK := FW.kp (J := []) hF XQ_k (fun a ha z => by omega)
    exact ⟨y, t, rfl, rfl, ey, hC.k0 hK (by decide), hK.kw (by decide) (by decide) (by decide) (by decide) (by decide)⟩
  · obtain ⟨r0, r3, r1, r2, r12, r13, r14, rT, r20, r32, r4, r6, rK, rB⟩ := id hR
    dsimp only at r0 r3 r1 r2 r12 r13 r14 rT r20 r32 r4 r6
    subst r0; subst r3; subst r1; subst r12; subst r13; subst r14; subst rT; subst r20; subst r4
    refine (c8_rolled (d := d + 2) hW.1).to (fun v σ hv => ?_)
    obtain ⟨y, u, rfl, rfl, ey, e0, hF⟩ := hv
    exact ⟨y, u, rfl, rfl, ey, hR.r1 hF (by decide) e0, hF.kz (by decide)⟩
  · exact hP
theorem k_looked {d : Nat} {s : Sn} {a1 a2 a3 : Int32} (hI : INV s) : SB2 d MX7_looked MX8_looked [vI a1, vI a2, vI a3] s := by
  obtain ⟨⟨⟨f, c, c8, wk⟩, h, ⟨g, ci, ci8, wi⟩, ⟨so, si, ce⟩, T, ⟨te, kt⟩, ⟨tp, nt⟩⟩, hC, hR, hP⟩ := hI
  obtain ⟨c1, c2, c3, c4, c5, c6, c7, c9, ca⟩ := id hC
  obtain ⟨⟨hG, h2, hwk⟩, ⟨hG1, h21, hwi⟩, hSQ, hCQ, hHQ, hkt, hTQ, hnt⟩ := id hP
  obtain ⟨hW, ⟨n7, hL⟩, hKD, hUC, hN2, hz⟩ := id hG
  dsimp only at c1 c2 c3 c4 c5 c6 c7 hG h2 hwk hG1 h21 hwi hSQ hCQ hHQ hkt hTQ hnt hW hL hKD hUC hN2 hz
  refine step2 (A := loA f so si ce c a1 a2 a3) (D' := ((f, c, c8, wk), h, (g, ci, ci8, wi), (so, si, ce), T, (te, kt), (tp, nt))) hR ?_ (fun t hR => ?_) ?_
  · refine (c7_looked (d := d + 2) c1 c4 hSQ hCQ hW).to (fun v σ hv => ?_)
    obtain ⟨y, t, rfl, rfl, ey, hF⟩ := hv
    have hK := FW.kp (J := []) hF XQ_k (fun a ha z => by omega)
    exact ⟨y, t, rfl, rfl, ey, hC.k0 hK (by decide), hK.kw (by decide) (by decide) (by decide) (by decide) (by decide)⟩
  · obtain ⟨r0, r3, r1, r2, r12, r13, r14, rT, r20, r32, r4, r6, rK, rB⟩ := id hR
    dsimp only at r0 r3 r1 r2 r12 r13 r14 rT r20 r32 r4 r6
    subst r0; subst r3; subst r1; subst r12; subst r13; subst r14; subst rT; subst r20; subst r4
    refine (c8_looked (d := d + 2) hSQ hCQ hW.1).to (fun v σ hv => ?_)
    obtain ⟨y, u, rfl, rfl, ey, e0, hF⟩ := hv
    exact ⟨y, u, rfl, rfl, ey, hR.r1 hF (by decide) e0, hF.kz (by decide)⟩
  · exact hP
theorem k_fee {d : Nat} {s : Sn} (hI : INV s) : SB2 d MX7_fee MX8_fee [] s := by
  obtain ⟨⟨⟨f, c, c8, wk⟩, h, ⟨g, ci, ci8, wi⟩, ⟨so, si, ce⟩, T, ⟨te, kt⟩, ⟨tp, nt⟩⟩, hC, hR, hP⟩ := hI
  obtain ⟨c1, c2, c3, c4, c5, c6, c7, c9, ca⟩ := id hC
  obtain ⟨⟨hG, h2, hwk⟩, ⟨hG1, h21, hwi⟩, hSQ, hCQ, hHQ, hkt, hTQ, hnt⟩ := id hP
  obtain ⟨hW, ⟨n7, hL⟩, hKD, hUC, hN2, hz⟩ := id hG
  dsimp only at c1 c2 c3 c4 c5 c6 c7 hG h2 hwk hG1 h21 hwi hSQ hCQ hHQ hkt hTQ hnt hW hL hKD hUC hN2 hz
  refine step2 (A := txA f c8 1 (f 6) (f 2)) (D' := ((f, c, c8, wk), h, (g, ci, ci8, wi), (so, si, ce), T, (te, kt), (tp, nt))) hR ?_ (fun t hR => ?_) ?_
  · refine (c7_fee (d := d + 5) c1.1 hW c1.2.1).to (fun v σ hv => ?_)
    obtain ⟨y, t, rfl, rfl, ey, hF⟩ := hv
    have hK := hF.kp X36_k
    exact ⟨y, t, rfl, rfl, ey, hC.k0 hK (by decide), hK.kw (by decide) (by decide) (by decide) (by decide) (by decide)⟩
  · obtain ⟨r0, r3, r1, r2, r12, r13, r14, rT, r20, r32, r4, r6, rK, rB⟩ := id hR
    dsimp only at r0 r3 r1 r2 r12 r13 r14 rT r20 r32 r4 r6
    subst r0; subst r3; subst r1; subst r12; subst r13; subst r14; subst rT; subst r20; subst r4
    refine (c8_fee (d := d + 6) hW.1 hN2).to (fun v σ hv => ?_)
    obtain ⟨y, u, rfl, rfl, ey, hF⟩ := hv
    exact ⟨y, u, rfl, rfl, ey, hR.r1 hF (by decide) (hF.1 _ (by decide)), hF.kz (by decide)⟩
  · exact hP
theorem k_fine {d : Nat} {s : Sn} {a1 : Int32} (hI : INV s) : SB2 d MX7_fine MX8_fine [vI a1] s := by
  obtain ⟨⟨⟨f, c, c8, wk⟩, h, ⟨g, ci, ci8, wi⟩, ⟨so, si, ce⟩, T, ⟨te, kt⟩, ⟨tp, nt⟩⟩, hC, hR, hP⟩ := hI
  obtain ⟨c1, c2, c3, c4, c5, c6, c7, c9, ca⟩ := id hC
  obtain ⟨⟨hG, h2, hwk⟩, ⟨hG1, h21, hwi⟩, hSQ, hCQ, hHQ, hkt, hTQ, hnt⟩ := id hP
  obtain ⟨hW, ⟨n7, hL⟩, hKD, hUC, hN2, hz⟩ := id hG
  dsimp only at c1 c2 c3 c4 c5 c6 c7 hG h2 hwk hG1 h21 hwi hSQ hCQ hHQ hkt hTQ hnt hW hL hKD hUC hN2 hz
  refine step2 (A := fiA f c c8 a1) (D' := ((f, c, c8, wk), h, (g, ci, ci8, wi), (so, si, ce), T, (te, kt), (tp, nt))) hR ?_ (fun t hR => ?_) ?_
  · refine (c7_fine (d := d + 5) c1.1 hW c1.2.1).to (fun v σ hv => ?_)
    obtain ⟨y, t, rfl, rfl, ey, hF⟩ := hv
    have hK := hF.kp X36_k
    exact ⟨y, t, rfl, rfl, ey, hC.k0 hK (by decide), hK.kw (by decide) (by decide) (by decide) (by decide) (by decide)⟩
  · obtain ⟨r0, r3, r1, r2, r12, r13, r14, rT, r20, r32, r4, r6, rK, rB⟩ := id hR
    dsimp only at r0 r3 r1 r2 r12 r13 r14 rT r20 r32 r4 r6
    subst r0; subst r3; subst r1; subst r12; subst r13; subst r14; subst rT; subst r20; subst r4
    refine (c8_fine (d := d + 6) hW.1 hN2).to (fun v σ hv => ?_)
    obtain ⟨y, u, rfl, rfl, ey, hF⟩ := hv
    exact ⟨y, u, rfl, rfl, ey, hR.r1 hF (by decide) (hF.1 _ (by decide)), hF.kz (by decide)⟩
  · exact hP
theorem k_why {d : Nat} {s : Sn} {a1 : Int32} (hI : INV s) : SB2 d MX7_why MX8_why [vI a1] s := by
  obtain ⟨⟨⟨f, c, c8, wk⟩, h, ⟨g, ci, ci8, wi⟩, ⟨so, si, ce⟩, T, ⟨te, kt⟩, ⟨tp, nt⟩⟩, hC, hR, hP⟩ := hI
  obtain ⟨c1, c2, c3, c4, c5, c6, c7, c9, ca⟩ := id hC
  obtain ⟨⟨hG, h2, hwk⟩, ⟨hG1, h21, hwi⟩, hSQ, hCQ, hHQ, hkt, hTQ, hnt⟩ := id hP
  obtain ⟨hW, ⟨n7, hL⟩, hKD, hUC, hN2, hz⟩ := id hG
  dsimp only at c1 c2 c3 c4 c5 c6 c7 hG h2 hwk hG1 h21 hwi hSQ hCQ hHQ hkt hTQ hnt hW hL hKD hUC hN2 hz
  refine step2 (A := whyA f c8 a1) (D' := ((f, c, c8, wk), h, (g, ci, ci8, wi), (so, si, ce), T, (te, kt), (tp, nt))) hR ?_ (fun t hR => ?_) ?_
  · refine (c7_why (d := d + 6) c1.1.1 hW.1.2.2.2.1 hW.1.2.2.1 c1.2.1).to (fun v σ hv => ?_)
    obtain ⟨y, t, rfl, rfl, ey, et⟩ := hv
    subst et
    exact ⟨y, _, rfl, rfl, ey, hC, (Kp.rf (l := []) (J := [])).kw (by decide) (by decide) (by decide) (by decide) (by decide)⟩
  · obtain ⟨r0, r3, r1, r2, r12, r13, r14, rT, r20, r32, r4, r6, rK, rB⟩ := id hR
    dsimp only at r0 r3 r1 r2 r12 r13 r14 rT r20 r32 r4 r6
    subst r0; subst r3; subst r1; subst r12; subst r13; subst r14; subst rT; subst r20; subst r4
    refine (c8_why (d := d + 7) hW.1.2.2.2.1 hW.1.2.2.1).to (fun v σ hv => ?_)
    obtain ⟨y, u, rfl, rfl, ey, et⟩ := hv
    subst et
    exact ⟨y, _, rfl, rfl, ey, hR, (Fr.rf (X := [])).kz (by decide)⟩
  · exact hP
theorem k_textTold {d : Nat} {s : Sn} {a1 a2 : Int32} (hI : INV s) : SB2 d MX7_textTold MX8_textTold [vI a1, vI a2] s := by
  obtain ⟨⟨⟨f, c, c8, wk⟩, h, ⟨g, ci, ci8, wi⟩, ⟨so, si, ce⟩, T, ⟨te, kt⟩, ⟨tp, nt⟩⟩, hC, hR, hP⟩ := hI
  obtain ⟨c1, c2, c3, c4, c5, c6, c7, c9, ca⟩ := id hC
  obtain ⟨⟨hG, h2, hwk⟩, ⟨hG1, h21, hwi⟩, hSQ, hCQ, hHQ, hkt, hTQ, hnt⟩ := id hP
  obtain ⟨hW, ⟨n7, hL⟩, hKD, hUC, hN2, hz⟩ := id hG
  dsimp only at c1 c2 c3 c4 c5 c6 c7 hG h2 hwk hG1 h21 hwi hSQ hCQ hHQ hkt hTQ hnt hW hL hKD hUC hN2 hz
  refine step2 (A := ttA f c8 a1 a2) (D' := ((f, c, c8, wk), h, (g, ci, ci8, wi), (so, si, ce), T, (te, kt), (tp, nt))) hR ?_ (fun t hR => ?_) ?_
  · refine (c7_textTold (d := d + 7) c1.1.1 hW.1.2.2.2.1 hW.1.2.2.1 c1.2.1).to (fun v σ hv => ?_)
    obtain ⟨y, t, rfl, rfl, ey, et⟩ := hv
    subst et
    exact ⟨y, _, rfl, rfl, ey, hC, (Kp.rf (l := []) (J := [])).kw (by decide) (by decide) (by decide) (by decide) (by decide)⟩
  · obtain ⟨r0, r3, r1, r2, r12, r13, r14, rT, r20, r32, r4, r6, rK, rB⟩ := id hR
    dsimp only at r0 r3 r1 r2 r12 r13 r14 rT r20 r32 r4 r6
    subst r0; subst r3; subst r1; subst r12; subst r13; subst r14; subst rT; subst r20; subst r4
    refine (c8_textTold (d := d + 7) hW.1.2.2.2.1 hW.1.2.2.1).to (fun v σ hv => ?_)
    obtain ⟨y, u, rfl, rfl, ey, et⟩ := hv
    subst et
    exact ⟨y, _, rfl, rfl, ey, hR, (Fr.rf (X := [])).kz (by decide)⟩
  · exact hP
theorem k_count {d : Nat} {s : Sn} {a1 : Int32} (hI : INV s) : SB2 d MX7_count MX8_count [vI a1] s := by
  obtain ⟨⟨⟨f, c, c8, wk⟩, h, ⟨g, ci, ci8, wi⟩, ⟨so, si, ce⟩, T, ⟨te, kt⟩, ⟨tp, nt⟩⟩, hC, hR, hP⟩ := hI
  obtain ⟨c1, c2, c3, c4, c5, c6, c7, c9, ca⟩ := id hC
  obtain ⟨⟨hG, h2, hwk⟩, ⟨hG1, h21, hwi⟩, hSQ, hCQ, hHQ, hkt, hTQ, hnt⟩ := id hP
  obtain ⟨hW, ⟨n7, hL⟩, hKD, hUC, hN2, hz⟩ := id hG
  dsimp only at c1 c2 c3 c4 c5 c6 c7 hG h2 hwk hG1 h21 hwi hSQ hCQ hHQ hkt hTQ hnt hW hL hKD hUC hN2 hz
  refine step2 (A := cnA f (nI kt) (nI nt) a1) (D' := ((f, c, c8, wk), h, (g, ci, ci8, wi), (so, si, ce), T, (te, kt), (tp, nt))) hR ?_ (fun t hR => ?_) ?_
  · refine (c7_count (d := d + 8) c1.1.1).to (fun v σ hv => ?_)
    obtain ⟨y, t, rfl, rfl, ey, et⟩ := hv
    subst et
    rw [c6.1, c7.1] at ey
    exact ⟨y, _, rfl, rfl, ey, hC, (Kp.rf (l := []) (J := [])).kw (by decide) (by decide) (by decide) (by decide) (by decide)⟩
  · obtain ⟨r0, r3, r1, r2, r12, r13, r14, rT, r20, r32, r4, r6, rK, rB⟩ := id hR
    dsimp only at r0 r3 r1 r2 r12 r13 r14 rT r20 r32 r4 r6
    subst r0; subst r3; subst r1; subst r12; subst r13; subst r14; subst rT; subst r20; subst r4
    refine (c8_count (d := d + 8)).to (fun v σ hv => ?_)
    obtain ⟨y, u, rfl, rfl, ey, et⟩ := hv
    subst et
    rw [r32, r6] at ey
    exact ⟨y, _, rfl, rfl, ey, hR, (Fr.rf (X := [])).kz (by decide)⟩
  · exact hP
theorem k_reads {d : Nat} {s : Sn} {a1 : Int32} (hI : INV s) : SB2 d MX7_reads MX8_reads [vI a1] s := by
  obtain ⟨⟨⟨f, c, c8, wk⟩, h, ⟨g, ci, ci8, wi⟩, ⟨so, si, ce⟩, T, ⟨te, kt⟩, ⟨tp, nt⟩⟩, hC, hR, hP⟩ := hI
  obtain ⟨c1, c2, c3, c4, c5, c6, c7, c9, ca⟩ := id hC
  obtain ⟨⟨hG, h2, hwk⟩, ⟨hG1, h21, hwi⟩, hSQ, hCQ, hHQ, hkt, hTQ, hnt⟩ := id hP
  obtain ⟨hW, ⟨n7, hL⟩, hKD, hUC, hN2, hz⟩ := id hG
  dsimp only at c1 c2 c3 c4 c5 c6 c7 hG h2 hwk hG1 h21 hwi hSQ hCQ hHQ hkt hTQ hnt hW hL hKD hUC hN2 hz
  refine step2 (A := rsA f so si ce c a1) (D' := ((f, c, c8, wk), h, (g, ci, ci8, wi), (so, si, ce), T, (te, kt), (tp, nt))) hR ?_ (fun t hR => ?_) ?_
  · refine (c7_reads (d := d + 6) c1.1 c4 hSQ).to (fun v σ hv => ?_)
    obtain ⟨y, t, rfl, rfl, ey, et⟩ := hv
    subst et
    exact ⟨y, _, rfl, rfl, ey, hC, (Kp.rf (l := []) (J := [])).kw (by decide) (by decide) (by decide) (by decide) (by decide)⟩
  · obtain ⟨r0, r3, r1, r2, r12, r13, r14, rT, r20, r32, r4, r6, rK, rB⟩ := id hR
    dsimp only at r0 r3 r1 r2 r12 r13 r14 rT r20 r32 r4 r6
    subst r0; subst r3; subst r1; subst r12; subst r13; subst r14; subst rT; subst r20; subst r4
    refine (c8_reads (d := d + 6) (c := c) hSQ hW.1.2.1 hW.1.1).to (fun v σ hv => ?_)
    obtain ⟨y, u, rfl, rfl, ey, et⟩ := hv
    subst et
    exact ⟨y, _, rfl, rfl, ey, hR, (Fr.rf (X := [])).kz (by decide)⟩
  · exact hP
theorem k_ask {d : Nat} {s : Sn} {a1 a2 : Int32} (hI : INV s) : SB2 d MX7_ask MX8_ask [vI a1, vI a2] s := by
  obtain ⟨⟨⟨f, c, c8, wk⟩, h, ⟨g, ci, ci8, wi⟩, ⟨so, si, ce⟩, T, ⟨te, kt⟩, ⟨tp, nt⟩⟩, hC, hR, hP⟩ := hI
  obtain ⟨c1, c2, c3, c4, c5, c6, c7, c9, ca⟩ := id hC
  obtain ⟨⟨hG, h2, hwk⟩, ⟨hG1, h21, hwi⟩, hSQ, hCQ, hHQ, hkt, hTQ, hnt⟩ := id hP
  obtain ⟨hW, ⟨n7, hL⟩, hKD, hUC, hN2, hz⟩ := id hG
  dsimp only at c1 c2 c3 c4 c5 c6 c7 hG h2 hwk hG1 h21 hwi hSQ hCQ hHQ hkt hTQ hnt hW hL hKD hUC hN2 hz
  refine step2 (A := akA T a1 a2) (D' := ((f, c, c8, wk), h, (g, ci, ci8, wi), (so, si, ce), T, (te, kt), (tp, nt))) hR ?_ (fun t hR => ?_) ?_
  · refine (c7_ask (d := d + 5) c5 c9).to (fun v σ hv => ?_)
    obtain ⟨y, t, rfl, rfl, ey, et⟩ := hv
    subst et
    exact ⟨y, _, rfl, rfl, ey, hC, (Kp.rf (l := []) (J := [])).kw (by decide) (by decide) (by decide) (by decide) (by decide)⟩
  · obtain ⟨r0, r3, r1, r2, r12, r13, r14, rT, r20, r32, r4, r6, rK, rB⟩ := id hR
    dsimp only at r0 r3 r1 r2 r12 r13 r14 rT r20 r32 r4 r6
    subst r0; subst r3; subst r1; subst r12; subst r13; subst r14; subst rT; subst r20; subst r4
    refine (c8_ask (d := d + 6)).to (fun v σ hv => ?_)
    obtain ⟨y, u, rfl, rfl, ey, et⟩ := hv
    subst et
    exact ⟨y, _, rfl, rfl, ey, hR, (Fr.rf (X := [])).kz (by decide)⟩
  · exact hP
theorem k_item {d : Nat} {s : Sn} {a1 a2 : Int32} (hI : INV s) : SB2 d MX7_item MX8_item [vI a1, vI a2] s := by
  obtain ⟨⟨⟨f, c, c8, wk⟩, h, ⟨g, ci, ci8, wi⟩, ⟨so, si, ce⟩, T, ⟨te, kt⟩, ⟨tp, nt⟩⟩, hC, hR, hP⟩ := hI
  obtain ⟨c1, c2, c3, c4, c5, c6, c7, c9, ca⟩ := id hC
  obtain ⟨⟨hG, h2, hwk⟩, ⟨hG1, h21, hwi⟩, hSQ, hCQ, hHQ, hkt, hTQ, hnt⟩ := id hP
  obtain ⟨hW, ⟨n7, hL⟩, hKD, hUC, hN2, hz⟩ := id hG
  dsimp only at c1 c2 c3 c4 c5 c6 c7 hG h2 hwk hG1 h21 hwi hSQ hCQ hHQ hkt hTQ hnt hW hL hKD hUC hN2 hz
  refine step2 (A := itA T a1 a2) (D' := ((f, c, c8, wk), h, (g, ci, ci8, wi), (so, si, ce), T, (te, kt), (tp, nt))) hR ?_ (fun t hR => ?_) ?_
  · refine (c7_item (d := d + 6) c5 hHQ).to (fun v σ hv => ?_)
    obtain ⟨y, t, rfl, rfl, ey, et⟩ := hv
    subst et
    exact ⟨y, _, rfl, rfl, ey, hC, (Kp.rf (l := []) (J := [])).kw (by decide) (by decide) (by decide) (by decide) (by decide)⟩
  · obtain ⟨r0, r3, r1, r2, r12, r13, r14, rT, r20, r32, r4, r6, rK, rB⟩ := id hR
    dsimp only at r0 r3 r1 r2 r12 r13 r14 rT r20 r32 r4 r6
    subst r0; subst r3; subst r1; subst r12; subst r13; subst r14; subst rT; subst r20; subst r4
    refine (c8_item (d := d + 6) hHQ).to (fun v σ hv => ?_)
    obtain ⟨y, u, rfl, rfl, ey, et⟩ := hv
    subst et
    exact ⟨y, _, rfl, rfl, ey, hR, (Fr.rf (X := [])).kz (by decide)⟩
  · exact hP
theorem k_rest {d : Nat} {s : Sn} {a1 a2 : Int32} (hI : INV s) : SB2 d MX7_rest MX8_rest [vI a1, vI a2] s := by
  obtain ⟨⟨⟨f, c, c8, wk⟩, h, ⟨g, ci, ci8, wi⟩, ⟨so, si, ce⟩, T, ⟨te, kt⟩, ⟨tp, nt⟩⟩, hC, hR, hP⟩ := hI
  obtain ⟨c1, c2, c3, c4, c5, c6, c7, c9, ca⟩ := id hC
  obtain ⟨⟨hG, h2, hwk⟩, ⟨hG1, h21, hwi⟩, hSQ, hCQ, hHQ, hkt, hTQ, hnt⟩ := id hP
  obtain ⟨hW, ⟨n7, hL⟩, hKD, hUC, hN2, hz⟩ := id hG
  dsimp only at c1 c2 c3 c4 c5 c6 c7 hG h2 hwk hG1 h21 hwi hSQ hCQ hHQ hkt hTQ hnt hW hL hKD hUC hN2 hz
  refine step2 (A := rtA T a1 a2) (D' := ((f, c, c8, wk), h, (g, ci, ci8, wi), (so, si, ce), T, (te, kt), (tp, nt))) hR ?_ (fun t hR => ?_) ?_
  · refine (c7_rest (d := d + 6) c5).to (fun v σ hv => ?_)
    obtain ⟨y, t, rfl, rfl, ey, et⟩ := hv
    subst et
    exact ⟨y, _, rfl, rfl, ey, hC, (Kp.rf (l := []) (J := [])).kw (by decide) (by decide) (by decide) (by decide) (by decide)⟩
  · obtain ⟨r0, r3, r1, r2, r12, r13, r14, rT, r20, r32, r4, r6, rK, rB⟩ := id hR
    dsimp only at r0 r3 r1 r2 r12 r13 r14 rT r20 r32 r4 r6
    subst r0; subst r3; subst r1; subst r12; subst r13; subst r14; subst rT; subst r20; subst r4
    refine (c8_rest (d := d + 6)).to (fun v σ hv => ?_)
    obtain ⟨y, u, rfl, rfl, ey, et⟩ := hv
    subst et
    exact ⟨y, _, rfl, rfl, ey, hR, (Fr.rf (X := [])).kz (by decide)⟩
  · exact hP
