/-! THE PURE PART, 12: the reference's week -/
theorem rch_s {r : Int32} {n : Nat} {f : Fl} : rch r (n + 1) f = rch r n (if f (45 + 5 * (cn f - (n + 1)) + 3) = r then gdn (cn f - (n + 1)) (drf f (cn f - (n + 1))).toNatClampNeg f else f) := rfl
theorem rvr_s {n : Nat} {f : Fl} : rvr (n + 1) f = rvr n (rch (nI n) (cn f) f) := rfl
theorem swg_u {f : Fl} : swg f = (let z := dz (f 0)
  let f1 := upd f 0 z
  let g := (rm (dv z) (f 1)).toNatClampNeg
  if f1 (45 + 5 * g + 3) < 12 then
    let z2 := dz z
    let f2 := upd f1 0 z2
    if rm (dv z2) 100 < clm (f2 (45 + 5 * g + 0)) (f2 5) then upd (upd f2 (45 + 5 * g + 3) 13) 6 (f2 6 + 1) else f2
  else f1) := rfl
theorem wk2_u {f : Fl} : wk2 f = (if 0 < f 5 ∧ 0 < f 1 then swg f else f) := rfl
theorem rch_step {f : Fl} {r : Int32} {c g : Nat} (hcn : cn f = c) (hg : g < c) : rch r (c - g) f = rch r (c - (g + 1)) (if f (45 + 5 * g + 3) = r then gdn g (drf f g).toNatClampNeg f else f) := by
  have e : c - g = (c - (g + 1)) + 1 := by omega
  rw [e, rch]
  have e2 : cn f - (c - (g + 1) + 1) = g := by rw [hcn]; omega
  rw [e2]
section
variable {d : Nat} {P : Option Av → St → Prop}
theorem l8_rch {c c8 m : Nat} (hm : m < 12) : ∀ g, g ≤ c → ∀ s1 : Sn, Wq (s1.1 (41, 0, 0)) c c8 → (∀ s2 : Sn, Wq (s2.1 (41, 0, 0)) c c8 → s2.1 (41, 0, 0) = rch (nI m) (c - g) (s1.1 (41, 0, 0)) → Fr [(41, 0, 0), (41, 10, 0), (41, 11, 0)] s1 s2 → Wp (d + 4) MX8_week 66 [some (vR 40 0 0), some (vI (nI m)), some (vI (nI c))] [] (hN s2) P) → Wp (d + 4) MX8_week 35 [some (vR 40 0 0), some (vI (nI m)), some (vI (nI g))] [] (hN s1) P := by
  refine ind_up (fun g hg ih => ?_)
  intro s1 hW K
  have hc12 := hW.2.1
  refine wp_iload_n dX8_week_35 rfl rfl ?_
  refine wp_aload_n dX8_week_36 rfl rfl ?_
  refine wn_getR dX8_week_37 fRX8_9 o40 rfl rfl rfl ?_
  refine wp_iconst (v := 1) dX8_week_40 (by decide) rfl ?_
  refine wn_iald (j := 1) dX8_week_41 (o41 0 rfl) rfl ⟨by decide, by decide⟩ (Nat.le_of_ble_eq_true rfl) rfl ?_
  rw [hW.1]
  refine wp_icmp_ge (t := 66) dX8_week_42 rfl rfl (fun h42 => ?_) (fun h42 => ?_)
  · have hgc : g = c := by have := (nI_leI (by omega) (by omega)).mp h42; omega
    subst hgc
    exact K s1 hW (by rw [Nat.sub_self]; rfl) Fr.rf
  · have hl : g < c := by have := mt (nI_leI (by omega) (by omega)).mpr h42; omega
    have hg12 : g < 12 := by omega
    refine wp_aload_n dX8_week_45 rfl rfl ?_
    refine wp_iload_n dX8_week_46 rfl rfl ?_
    refine wp_iconst (v := 3) dX8_week_47 (by decide) rfl ?_
    refine wn_callV2d dX8_week_48 rRX8_93 (rcv_of o40 rfl) (Nat.le_of_ble_eq_true rfl) rfl rfl (Nat.le_of_ble_eq_true rfl) rfl (c8_of (w := 3) hg12 (by decide)) ?_
    refine wp_iload_n dX8_week_51 rfl rfl ?_
    refine wp_icmp_ne (t := 60) dX8_week_52 rfl rfl (fun h52 => ?_) (fun h52 => ?_)
    · refine wp_iinc (l' := [_, _, some _]) (v := 1) dX8_week_60 rfl (by decide) rfl rfl ?_
      refine wp_goto (t := 35) dX8_week_63 rfl ?_
      rw [nI_1]
      refine ih hl s1 hW (fun s2 hW2 e2 hF2 => K s2 hW2 ?_ hF2)
      rw [rch_step hW.cn hl, if_neg h52]
      exact e2
    · refine wp_aload_n dX8_week_55 rfl rfl ?_
      refine wp_iload_n dX8_week_56 rfl rfl ?_
      refine wn_callV1n dX8_week_57 rRX8_136 (rcv_of o40 rfl) (Nat.le_of_ble_eq_true rfl) rfl (Nat.le_of_ble_eq_true rfl) rfl (c8_goesDown hg12 hc12 ⟨hW.1, h52⟩ (by omega) hW.2.2.2.1 hW.2.2.1 hW.2.2.2.2.1) (fun s57 hq57 => ?_)
      obtain ⟨e57, hF57⟩ := hq57
      have hWa : Wq (s57.1 (41, 0, 0)) c c8 := by rw [e57]; exact hW.gdn hg12 _
      refine wp_iinc (l' := [_, _, some _]) (v := 1) dX8_week_60 rfl (by decide) rfl rfl ?_
      refine wp_goto (t := 35) dX8_week_63 rfl ?_
      rw [nI_1]
      refine ih hl s57 hWa (fun s2 hW2 e2 hF2 => K s2 hW2 ?_ (hF57.tr hF2))
      rw [rch_step hW.cn hl, if_pos h52, ← e57]
      exact e2
theorem l8_rvr {c c8 : Nat} : ∀ m, m ≤ 12 → ∀ (s1 : Sn) (c2 : Option Av), Wq (s1.1 (41, 0, 0)) c c8 → (∀ (s2 : Sn) (c2 : Option Av), Wq (s2.1 (41, 0, 0)) c c8 → s2.1 (41, 0, 0) = rvr m (s1.1 (41, 0, 0)) → Fr [(41, 0, 0), (41, 10, 0), (41, 11, 0)] s1 s2 → Wp (d + 4) MX8_week 72 [some (vR 40 0 0), some (vI (-1)), c2] [] (hN s2) P) → Wp (d + 4) MX8_week 29 [some (vR 40 0 0), some (vI (nI m - 1)), c2] [] (hN s1) P := by
  intro m
  induction m with
  | zero =>
    intro _ s1 c2 hW K
    rw [show nI 0 - 1 = -1 from by decide]
    refine wp_iload_n dX8_week_29 rfl rfl ?_
    refine wp_if_lt (t := 72) dX8_week_30 rfl rfl (fun h30 => ?_) (fun h30 => absurd (by decide) h30)
    exact K s1 c2 hW rfl Fr.rf
  | succ m ih =>
    intro hm s1 c2 hW K
    rw [nI_pred]
    refine wp_iload_n dX8_week_29 rfl rfl ?_
    refine wp_if_lt (t := 72) dX8_week_30 rfl rfl (fun h30 => absurd h30 (nI_pos (by omega))) (fun h30 => ?_)
    refine wp_iconst (v := 0) dX8_week_33 (by decide) rfl ?_
    refine wp_istore_n (l' := [_, _, some _]) dX8_week_34 rfl rfl ?_
    refine l8_rch (by omega) 0 (Nat.zero_le _) s1 hW (fun s2 hW2 e2 hF2 => ?_)
    refine wp_iinc (l' := [_, some _, _]) (v := (-1)) dX8_week_66 rfl (by decide) rfl rfl ?_
    refine wp_goto (t := 29) dX8_week_69 rfl ?_
    rw [m1_sub]
    refine ih (by omega) s2 _ hW2 (fun s3 c3 hW3 e3 hF3 => K s3 c3 hW3 ?_ (hF2.tr hF3))
    rw [e3, e2, rvr]
    have hcn : cn (s1.1 (41, 0, 0)) = c := hW.cn
    rw [hcn]
    rfl
theorem Wq_rch {r : Int32} {c c8 : Nat} : ∀ (n : Nat) (f : Fl), n ≤ c → Wq f c c8 → Wq (rch r n f) c c8
  | 0, f, _, h => h
  | n + 1, f, hn, h => by
    rw [rch_s]
    refine Wq_rch n _ (by omega) ?_
    have hcn : cn f = c := h.cn
    rw [hcn]
    have := h.2.1
    split
    · exact h.gdn (by omega) _
    · exact h
theorem Wq_rvr {c c8 : Nat} : ∀ (n : Nat) (f : Fl), Wq f c c8 → Wq (rvr n f) c c8
  | 0, f, h => h
  | n + 1, f, h => by
    rw [rvr_s]
    have hcn : cn f = c := h.cn
    exact Wq_rvr n _ (Wq_rch _ f (by rw [hcn]; exact Nat.le_refl _) h)
theorem Wq.up {f : Fl} {c c8 k : Nat} {v : Int32} (h : Wq f c c8) (h1 : k ≠ 1) (h8 : k ≠ 8) (h45 : k < 45) : Wq (upd f k v) c c8 := by
  refine h.keep (upd_ne (Ne.symm h1)) (upd_ne (Ne.symm h8)) (fun j hj => upd_ne (by omega)) (fun g hg => ?_)
  obtain ⟨r, hr, e⟩ := h.2.2.2.2.2 g hg
  exact ⟨r, hr, by rw [upd_ne (by omega)]; exact e⟩
theorem Wq.upr {f : Fl} {c c8 g r : Nat} (h : Wq f c c8) (hg : g < 12) (hr : r ≤ 13) : Wq (upd f (45 + 5 * g + 3) (nI r)) c c8 := by
  refine h.keep (upd_ne (by omega)) (upd_ne (by omega)) (fun j hj => upd_ne (by omega)) (fun q hq => ?_)
  by_cases e : q = g
  · subst e; exact ⟨r, hr, upd_eq⟩
  · obtain ⟨r2, hr2, e2⟩ := h.2.2.2.2.2 q hq
    exact ⟨r2, hr2, by rw [upd_ne (by omega)]; exact e2⟩
theorem Wq.wk0 {f : Fl} {c c8 : Nat} (h : Wq f c c8) : Wq (wk0 f) c c8 := (h.up (by decide) (by decide) (by decide)).up (by decide) (by decide) (by decide)
theorem Wq.swg {f : Fl} {c c8 : Nat} (h : Wq f c c8) (h0 : 0 < c) : Wq (swg f) c c8 := by
  obtain ⟨k1, hk1, e1⟩ := dv_nat (dz (f 0))
  have hg : (rm (dv (dz (f 0))) (f 1)).toNatClampNeg = k1 % c := by
    rw [e1, h.1, rm_nat (by omega) h0 (by have := h.2.1; omega), nI_clamp (by have := Nat.mod_lt k1 h0; have := h.2.1; omega)]
  have hlt : k1 % c < 12 := by have := Nat.mod_lt k1 h0; have := h.2.1; omega
  rw [swg_u]
  dsimp only
  rw [hg]
  split
  · split
    · exact (((h.up (by decide) (by decide) (by decide)).up (by decide) (by decide) (by decide)).upr (r := 13) hlt (by decide)).up (by decide) (by decide) (by decide)
    · exact (h.up (by decide) (by decide) (by decide)).up (by decide) (by decide) (by decide)
  · exact h.up (by decide) (by decide) (by decide)
theorem Wq.wk2 {f : Fl} {c c8 : Nat} (h : Wq f c c8) : Wq (wk2 f) c c8 := by
  rw [wk2_u]
  split
  · rename_i hc
    refine h.swg ?_
    have h2 := hc.2
    rw [h.1] at h2
    exact (nI_ltI (a := 0) (by omega) (by have := h.2.1; omega)).mp h2
  · exact h
theorem Wq.wek {f : Fl} {c c8 : Nat} (h : Wq f c c8) : Wq (wek f) c c8 := (Wq.wk2 (Wq_rvr 12 _ h.wk0)).up (by decide) (by decide) (by decide)
theorem Wq.weks {c c8 : Nat} : ∀ (n : Nat) (f : Fl), Wq f c c8 → Wq (weks n f) c c8
  | 0, f, h => h
  | n + 1, f, h => Wq.weks n _ h.wek
theorem c8_week {s : Sn} {c c8 : Nat} (hW : Wq (s.1 (41, 0, 0)) c c8) : Ca (d + 4) MX8_week [vR 40 0 0] (hN s) (Pn fun t => t.1 (41, 0, 0) = wek (s.1 (41, 0, 0)) ∧ Fr [(41, 0, 0), (41, 10, 0), (41, 11, 0)] s t) := by
  change Wp _ _ 0 [some _, none, none] [] _ _
  refine wp_aload_n dX8_week_0 rfl rfl ?_
  refine wn_getR dX8_week_1 fRX8_9 o40 rfl rfl rfl ?_
  refine wp_iconst (v := 3) dX8_week_4 (by decide) rfl ?_
  refine wp_aload_n dX8_week_5 rfl rfl ?_
  refine wn_callV0d dX8_week_6 rRX8_129 (rcv_of o40 rfl) (Nat.le_of_ble_eq_true rfl)  (Nat.le_of_ble_eq_true rfl) rfl (c8_draw) ?_
  refine wp_bipush (v := 10) dX8_week_9 (by decide) rfl ?_
  refine wp_irem dX8_week_11 (by decide) rfl ?_
  rw [show ∀ x y : Int32, x - x / y * y = rm x y from fun _ _ => rfl]
  refine wp_aload_n dX8_week_12 rfl rfl ?_
  refine wn_getR dX8_week_13 fRX8_9 o40 rfl rfl rfl ?_
  refine wp_iconst (v := 4) dX8_week_16 (by decide) rfl ?_
  refine wn_iald (j := 4) dX8_week_17 (o41 0 rfl) rfl ⟨by decide, by decide⟩ (Nat.le_of_ble_eq_true rfl) rfl ?_
  rw [sI_nk (show (4 : Nat) ≠ 0 by decide)]
  refine wp_isub dX8_week_18 rfl ?_
  refine wp_iconst (v := 0) dX8_week_19 (by decide) rfl ?_
  refine wp_bipush (v := 9) dX8_week_20 (by decide) rfl ?_
  refine wn_callS3d dX8_week_22 rRX8_100 (Nat.le_of_ble_eq_true rfl) rfl rfl rfl (Nat.le_of_ble_eq_true rfl) rfl (c8_within) ?_
  refine wn_iast (j := 3) dX8_week_25 (o41 0 rfl) rfl ⟨by decide, by decide⟩ (Nat.le_of_ble_eq_true rfl) rfl ?_
  refine wp_bipush (v := 11) dX8_week_26 (by decide) rfl ?_
  refine wp_istore_n (l' := [_, some _, _]) dX8_week_28 rfl rfl ?_
  have hF0 : Fr [(41, 0, 0), (41, 10, 0), (41, 11, 0)] s (sI (sI s (41, 0, 0) 0 (dz (s.1 (41, 0, 0) 0))) (41, 0, 0) 3 (wth (rm (dv (dz (s.1 (41, 0, 0) 0))) 10 - s.1 (41, 0, 0) 4) 0 9)) := (Fr.rf.pt (by decide)).pt (by decide)
  rw [show (11 : Int32) = nI 12 - 1 from by decide]
  refine l8_rvr (c := c) (c8 := c8) 12 (Nat.le_refl _) _ _ (by rw [sI_row, sI_row]; exact hW.wk0) (fun s2 c2 hW2 e2 hF2 => ?_)
  have e2 : s2.1 (41, 0, 0) = wk1 (s.1 (41, 0, 0)) := by rw [e2, sI_row, sI_row]; rfl
  refine wp_aload_n dX8_week_72 rfl rfl ?_
  refine wn_getR dX8_week_73 fRX8_9 o40 rfl rfl rfl ?_
  refine wp_iconst (v := 5) dX8_week_76 (by decide) rfl ?_
  refine wn_iald (j := 5) dX8_week_77 (o41 0 rfl) rfl ⟨by decide, by decide⟩ (Nat.le_of_ble_eq_true rfl) rfl ?_
  refine wp_if_le (t := 94) dX8_week_78 rfl rfl (fun h78 => ?_) (fun h78 => ?_)
  · refine wp_aload_n dX8_week_94 rfl rfl ?_
    refine wn_getR dX8_week_95 fRX8_9 o40 rfl rfl rfl ?_
    refine wp_iconst (v := 2) dX8_week_98 (by decide) rfl ?_
    refine wp_dup2 dX8_week_99 rfl rfl rfl ?_
    refine wn_iald (j := 2) dX8_week_100 (o41 0 rfl) rfl ⟨by decide, by decide⟩ (Nat.le_of_ble_eq_true rfl) rfl ?_
    refine wp_iconst (v := 1) dX8_week_101 (by decide) rfl ?_
    refine wp_iadd dX8_week_102 rfl ?_
    refine wn_iast (j := 2) dX8_week_103 (o41 0 rfl) rfl ⟨by decide, by decide⟩ (Nat.le_of_ble_eq_true rfl) rfl ?_
    refine wp_ret dX8_week_104 rfl ?_
    refine ⟨_, rfl, rfl, ?_, ?_⟩
    · rw [sI_row]
      have e9 : wk2 (wk1 (s.1 (41, 0, 0))) = s2.1 (41, 0, 0) := by rw [← e2, wk2, if_neg (fun z => absurd z.1 (Int32.not_lt.mpr h78))]
      rw [wek, e9]
    · exact (hF0.tr hF2).pt (by decide)
  · refine wp_aload_n dX8_week_81 rfl rfl ?_
    refine wn_getR dX8_week_82 fRX8_9 o40 rfl rfl rfl ?_
    refine wp_iconst (v := 1) dX8_week_85 (by decide) rfl ?_
    refine wn_iald (j := 1) dX8_week_86 (o41 0 rfl) rfl ⟨by decide, by decide⟩ (Nat.le_of_ble_eq_true rfl) rfl ?_
    refine wp_if_le (t := 94) dX8_week_87 rfl rfl (fun h87 => ?_) (fun h87 => ?_)
    · refine wp_aload_n dX8_week_94 rfl rfl ?_
      refine wn_getR dX8_week_95 fRX8_9 o40 rfl rfl rfl ?_
      refine wp_iconst (v := 2) dX8_week_98 (by decide) rfl ?_
      refine wp_dup2 dX8_week_99 rfl rfl rfl ?_
      refine wn_iald (j := 2) dX8_week_100 (o41 0 rfl) rfl ⟨by decide, by decide⟩ (Nat.le_of_ble_eq_true rfl) rfl ?_
      refine wp_iconst (v := 1) dX8_week_101 (by decide) rfl ?_
      refine wp_iadd dX8_week_102 rfl ?_
      refine wn_iast (j := 2) dX8_week_103 (o41 0 rfl) rfl ⟨by decide, by decide⟩ (Nat.le_of_ble_eq_true rfl) rfl ?_
      refine wp_ret dX8_week_104 rfl ?_
      refine ⟨_, rfl, rfl, ?_, ?_⟩
      · rw [sI_row]
        have e9 : wk2 (wk1 (s.1 (41, 0, 0))) = s2.1 (41, 0, 0) := by rw [← e2, wk2, if_neg (fun z => absurd z.2 (Int32.not_lt.mpr h87))]
        rw [wek, e9]
      · exact (hF0.tr hF2).pt (by decide)
    · refine wp_aload_n dX8_week_90 rfl rfl ?_
      refine wn_callV0n dX8_week_91 rRX8_140 (rcv_of o40 rfl) (Nat.le_of_ble_eq_true rfl)  (Nat.le_of_ble_eq_true rfl) rfl (c8_saws (c := c) (by rw [hW2.1] at h87; have := mt (nI_leI (b := 0) (by have := hW2.2.1; omega) (by omega)).mpr h87; omega) hW2.2.1 hW2.1) (fun s91 hq91 => ?_)
      obtain ⟨e91, hF91⟩ := hq91
      refine wp_aload_n dX8_week_94 rfl rfl ?_
      refine wn_getR dX8_week_95 fRX8_9 o40 rfl rfl rfl ?_
      refine wp_iconst (v := 2) dX8_week_98 (by decide) rfl ?_
      refine wp_dup2 dX8_week_99 rfl rfl rfl ?_
      refine wn_iald (j := 2) dX8_week_100 (o41 0 rfl) rfl ⟨by decide, by decide⟩ (Nat.le_of_ble_eq_true rfl) rfl ?_
      refine wp_iconst (v := 1) dX8_week_101 (by decide) rfl ?_
      refine wp_iadd dX8_week_102 rfl ?_
      refine wn_iast (j := 2) dX8_week_103 (o41 0 rfl) rfl ⟨by decide, by decide⟩ (Nat.le_of_ble_eq_true rfl) rfl ?_
      refine wp_ret dX8_week_104 rfl ?_
      refine ⟨_, rfl, rfl, ?_, ?_⟩
      · rw [sI_row]
        have e9 : wk2 (wk1 (s.1 (41, 0, 0))) = s91.1 (41, 0, 0) := by rw [e91, ← e2, wk2, if_pos ⟨Int32.not_le.mp h78, Int32.not_le.mp h87⟩]
        rw [wek, e9]
      · exact ((hF0.tr hF2).tr hF91).pt (by decide)
theorem c8_goesOn {s : Sn} {c c8 n : Nat} (hn : n < 1000) (hW : Wq (s.1 (41, 0, 0)) c c8) : Ca (d + 5) MX8_goesOn [vR 40 0 0, vI (nI n)] (hN s) (Pn fun t => t.1 (41, 0, 0) = weks n (s.1 (41, 0, 0)) ∧ Fr [(41, 0, 0), (41, 10, 0), (41, 11, 0)] s t) := by
  change Wp _ _ 0 [some _, some _, none] [] _ _
  refine wp_iconst (v := 0) dX8_goesOn_0 (by decide) rfl ?_
  refine wp_istore_n (l' := [_, _, some _]) dX8_goesOn_1 rfl rfl ?_
  have key : ∀ k, k ≤ n → ∀ s1 : Sn, Wq (s1.1 (41, 0, 0)) c c8 → Wp (d + 5) MX8_goesOn 2 [some (vR 40 0 0), some (vI (nI n)), some (vI (nI k))] [] (hN s1) (Pn fun t => t.1 (41, 0, 0) = weks (n - k) (s1.1 (41, 0, 0)) ∧ Fr [(41, 0, 0), (41, 10, 0), (41, 11, 0)] s1 t) := by
    refine ind_up (fun k hk ih => ?_)
    intro s1 hW1
    refine wp_iload_n dX8_goesOn_2 rfl rfl ?_
    refine wp_iload_n dX8_goesOn_3 rfl rfl ?_
    refine wp_icmp_ge (t := 17) dX8_goesOn_4 rfl rfl (fun h4 => ?_) (fun h4 => ?_)
    · refine wp_ret dX8_goesOn_17 rfl ?_
      have hkn : k = n := by have := (nI_leI (by omega) (by omega)).mp h4; omega
      subst hkn
      exact ⟨_, rfl, rfl, by rw [Nat.sub_self]; rfl, Fr.rf⟩
    · have hl : k < n := by have := mt (nI_leI (by omega) (by omega)).mpr h4; omega
      refine wp_aload_n dX8_goesOn_7 rfl rfl ?_
      refine wn_callV0n dX8_goesOn_8 rRX8_143 (rcv_of o40 rfl) (Nat.le_of_ble_eq_true rfl)  (Nat.le_of_ble_eq_true rfl) rfl (c8_week hW1) (fun s8 hq8 => ?_)
      obtain ⟨e8, hF8⟩ := hq8
      refine wp_iinc (l' := [_, _, some _]) (v := 1) dX8_goesOn_11 rfl (by decide) rfl rfl ?_
      refine wp_goto (t := 2) dX8_goesOn_14 rfl ?_
      rw [nI_1]
      refine (ih hl s8 (by rw [e8]; exact hW1.wek)).conseq ?_
      rintro v σ1 ⟨t, rfl, rfl, ht, hF⟩
      refine ⟨_, rfl, rfl, ?_, hF8.tr hF⟩
      rw [ht, e8, show n - k = (n - (k + 1)) + 1 by omega, weks]
  exact key 0 (Nat.zero_le _) s hW
end
