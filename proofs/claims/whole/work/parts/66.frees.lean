/-! THE PURE PART, 47: frees, lost -/
section
variable {d i : Nat}
theorem RV.rc {s : Sn} {f : Fl} {c g : Nat} {v : Int32} (h : RV s i f c) (hg : g < c) (ho : ¬ f (45 + 5 * g + 3) = 12) (hv : ¬ v = 12) : RV (sI s (12, i, g) 3 v) i (upd f (45 + 5 * g + 3) v) c := by
  obtain ⟨hR, h13, h1, hc⟩ := h
  have hcn : cn f = c := by unfold cn; rw [h1, nI_clamp (by omega)]
  refine ⟨RC.pt (q := ((12, i, g), 3)) hR (rc_lg (by decide)) (by omega), ?_, by rw [upd_ne (by omega)]; exact h1, hc⟩
  have hm := mny_upd (f := f) (j := g) (w := v) (v := 12) (by omega)
  rw [if_neg hv, if_neg ho] at hm
  rw [sI_nr (show ((11, i, 0) : Rf) ≠ (12, i, g) by intro z; exact absurd (congrArg Prod.fst z) (by show ¬ 11 = 12; decide)), h13]
  congr 1
  omega
abbrev outg (f : Fl) (g : Nat) : Fl := upd f (45 + 5 * g + 3) 13
theorem outg_Q {f : Fl} {c c8 g : Nat} (h : Wq f c c8) (hg : g < 12) : Wq (outg f g) c c8 := h.upr (r := 13) hg (by decide)
theorem outg_W {f : Fl} {c c8 g : Nat} (h : Wr f c c8) (hg : g < 12) : Wr (outg f g) c c8 := h.upr (r := 13) hg (by decide)
theorem outg_L {f : Fl} {n g : Nat} (h : LL f n) : LL (outg f g) n := h.cg (fun k h7 h21 => upd_ne (by omega))
theorem t12 {a g : Nat} : ((12, a, g) : Rf).1 ≠ 34 ∧ ((12, a, g) : Rf).1 ≠ 35 := ⟨(by decide : (12 : Nat) ≠ 34), (by decide : (12 : Nat) ≠ 35)⟩
theorem q12 {g : Nat} : XQ (12, 2, g) := Or.inr ⟨(by decide : 2 ≤ 2), Or.inr (Or.inr (Or.inr (Or.inr (Or.inl rfl))))⟩
theorem lt12 {x : Int32} (h : x < 12) : ¬ x = 12 := fun e => absurd (e ▸ h) (by decide)
theorem c7_without {s : Sn} {f : Fl} {c c8 g : Nat} (h : RVL s 0 f c c8) (hc8 : c8 ≤ 14) (hg : g < c) (hg12 : g < 12) (ho : f (45 + 5 * g + 3) < 12) : Ca (d + 2) MX7_startThoughtWithout [vR 10 0 0, vI (nI g)] (hN s) (Pn fun t => RVL t 2 (outg f g) c c8 ∧ FH s t) := by
  change Wp _ _ 0 [some _, some _] [] _ _
  refine wp_aload_n dX7_startThoughtWithout_0 rfl rfl ?_
  refine wn_getR dX7_startThoughtWithout_1 fRX7_19 o10 rfl rfl rfl ?_
  refine wp_aload_n dX7_startThoughtWithout_4 rfl rfl ?_
  refine wn_getR dX7_startThoughtWithout_5 fRX7_10 o10 rfl rfl rfl ?_
  refine wn_callV1n dX7_startThoughtWithout_8 rRX7_200 (rcv_of (o11 (by decide)) rfl) (Nat.le_of_ble_eq_true rfl) rfl (Nat.le_of_ble_eq_true rfl) rfl (c3_takes (by decide) (by decide) (by decide) h hc8) (fun s8 hq8 => ?_)
  obtain ⟨h8, hF8⟩ := hq8
  have hH : FH s s8 := hF8.wd (XT_Q (by decide)) (fun r z => by omega)
  refine wp_aload_n dX7_startThoughtWithout_11 rfl rfl ?_
  refine wn_getR dX7_startThoughtWithout_12 fRX7_19 o10 rfl rfl rfl ?_
  refine wn_getR dX7_startThoughtWithout_15 fRX7_80 (o11 (by decide)) rfl rfl rfl ?_
  refine wp_iload_n dX7_startThoughtWithout_18 rfl rfl ?_
  refine wn_aald13 dX7_startThoughtWithout_19 (by decide) (nIx rfl (by omega)) hg12 rfl ?_
  refine wp_bipush (v := 13) dX7_startThoughtWithout_20 (by decide) rfl ?_
  refine wn_putI dX7_startThoughtWithout_22 fRX7_95 (o12 (by decide) hg12) rfl rfl rfl ?_
  refine wp_ret dX7_startThoughtWithout_25 rfl ?_
  exact ⟨_, rfl, rfl, h8.up (h8.1.rc hg (lt12 ho) (by decide)) (by omega) t12, hH.pt q12⟩
def frP (f : Fl) : Nat → Bool := fun g => decide (f (45 + 5 * g + 3) < 12)
def frV (f : Fl) (n : Nat) : Nat → Int32 := fun g => if g < 12 then nI (mny (weks n (outg f g)) 12) else 0
theorem frV_y {f : Fl} {n r : Nat} (hr : r < 12) : frV f n r = nI (mny (weks n (outg f r)) 12) := if_pos hr
theorem frV_31 {f : Fl} {n c c8 : Nat} (h : Wq f c c8) : ∀ k, ∃ m, m < 2 ^ 31 ∧ frV f n k = nI m := fun k => by
  by_cases e : k < 12
  · rw [frV_y e]; exact mny_31 (Wq.weks n _ (outg_Q h e))
  · exact ⟨0, by decide, if_neg e⟩
abbrev frB (f : Fl) (n : Nat) (a : Int32 × Int32) (k : Nat) : Int32 × Int32 := bsg (frP f) (frV f n) a k
def frA (f : Fl) (c : Nat) (x y : Int32) : Int32 := if wiO x y then (if y = 0 then (frB f x.toNatClampNeg nn5 c).1 else (frB f x.toNatClampNeg nn5 c).2) else -1000000001
theorem frA_y {f : Fl} {c n : Nat} {y : Int32} (h : wiO (nI n) y) (hn : n ≤ 40) : frA f c (nI n) y = if y = 0 then (frB f n nn5 c).1 else (frB f n nn5 c).2 := by
  unfold frA
  rw [if_pos h, nI_clamp (by omega)]
theorem l8_fr {s : Sn} {c c8 n : Nat} {y : Int32} (hW : Wq (s.1 (41, 0, 0)) c c8) (hn : n ≤ 40) (hO : wiO (nI n) y) : ∀ k, k ≤ c → ∀ s1 : Sn, s1.1 (41, 0, 0) = (s.1 (41, 0, 0)) → BE s1 (s.1 (41, 0, 0)) → Fr XB s s1 → ∀ c6, Wp (d + 7) MX8_frees 34 [some (vR 40 0 0), some (vI (nI n)), some (vI y), some (vI (frB (s.1 (41, 0, 0)) n nn1 k).1), some (vI (frB (s.1 (41, 0, 0)) n nn1 k).2), some (vI (nI k)), c6] [] (hN s1) (Pv fun z t => z = frA (s.1 (41, 0, 0)) c (nI n) y ∧ t.1 (41, 0, 0) = (s.1 (41, 0, 0)) ∧ Fr XB s t) := by
  have hc := hW.2.1
  refine ind_up (fun k hk ih => ?_)
  intro s1 e1 hB hF c6
  refine wp_iload dX8_frees_34 rfl rfl ?_
  refine wp_aload_n dX8_frees_36 rfl rfl ?_
  refine wn_getR dX8_frees_37 fRX8_9 o40 rfl rfl rfl ?_
  refine wp_iconst (v := 1) dX8_frees_40 (by decide) rfl ?_
  refine wn_iald (j := 1) dX8_frees_41 (o41 0 rfl) rfl ⟨by decide, by decide⟩ (Nat.le_of_ble_eq_true rfl) rfl ?_
  rw [e1, hW.1]
  refine wp_icmp_ge (t := 109) dX8_frees_42 rfl rfl (fun h42 => ?_) (fun h42 => ?_)
  · have hk2 : k = c := by have := (nI_leI (by omega) (by omega)).mp h42; omega
    subst hk2
    rcases bsg_e (p := frP (s.1 (41, 0, 0))) (frV_31 (n := n) hW) k (by omega) with ⟨q1, q2, q3⟩ | ⟨q1, m, q2, q3⟩
    · rw [show frB (s.1 (41, 0, 0)) n nn1 k = nn1 from q3]
      refine wp_iload_n dX8_frees_109 rfl rfl ?_
      refine wp_if_ge (t := 118) dX8_frees_110 rfl rfl (fun h110 => absurd h110 (by decide)) (fun h110 => ?_)
      refine wp_ldc dX8_frees_113 kRX8_149 rfl ?_
      refine wp_goto (t := 128) dX8_frees_115 rfl ?_
      refine wp_iret dX8_frees_128 rfl rfl ?_
      refine ⟨_, _, rfl, rfl, ?_, e1, hF⟩
      rw [frA_y hO hn, frB, q2]
      split <;> rfl
    · refine wp_iload_n dX8_frees_109 rfl rfl ?_
      refine wp_if_ge (t := 118) dX8_frees_110 rfl rfl (fun h110 => ?_) (fun h110 => absurd (by rw [q3]; exact nI_pos' q2) h110)
      refine wp_iload_n dX8_frees_118 rfl rfl ?_
      refine wp_if_ne (t := 126) dX8_frees_119 rfl rfl (fun h119 => ?_) (fun h119 => ?_)
      · refine wp_iload dX8_frees_126 rfl rfl ?_
        refine wp_iret dX8_frees_128 rfl rfl ?_
        refine ⟨_, _, rfl, rfl, ?_, e1, hF⟩
        rw [frA_y hO hn, show frB (s.1 (41, 0, 0)) n nn5 k = frB (s.1 (41, 0, 0)) n nn1 k from q1, if_neg h119]
      · refine wp_iload_n dX8_frees_122 rfl rfl ?_
        refine wp_goto (t := 128) dX8_frees_123 rfl ?_
        refine wp_iret dX8_frees_128 rfl rfl ?_
        refine ⟨_, _, rfl, rfl, ?_, e1, hF⟩
        rw [frA_y hO hn, show frB (s.1 (41, 0, 0)) n nn5 k = frB (s.1 (41, 0, 0)) n nn1 k from q1, if_pos h119]
  · have hl : k < c := by have := mt (nI_leI (by omega) (by omega)).mpr h42; omega
    have hk12 : k < 12 := by omega
    refine wp_aload_n dX8_frees_45 rfl rfl ?_
    refine wp_iload dX8_frees_46 rfl rfl ?_
    refine wp_iconst (v := 3) dX8_frees_48 (by decide) rfl ?_
    refine wn_callV2d dX8_frees_49 rRX8_93 (rcv_of o40 rfl) (Nat.le_of_ble_eq_true rfl) rfl rfl (Nat.le_of_ble_eq_true rfl) rfl (c8_of (j := k) (w := 3) hk12 (by decide)) ?_
    refine wp_bipush (v := 12) dX8_frees_52 (by decide) rfl ?_
    rw [e1]
    refine wp_icmp_ge (t := 103) dX8_frees_54 rfl rfl (fun h54 => ?_) (fun h54 => ?_)
    · refine wp_iinc (l' := [_, _, _, _, _, some _, _]) (v := 1) dX8_frees_103 rfl (by decide) rfl rfl ?_
      refine wp_goto (t := 34) dX8_frees_106 rfl ?_
      rw [nI_1]
      have h := ih hl _ e1 hB hF c6
      rw [frB, bsg_p (show ¬ frP (s.1 (41, 0, 0)) k = true from fun z => absurd (of_decide_eq_true z) (Int32.not_lt.mpr h54))] at h
      exact h
    · refine wp_aload_n dX8_frees_57 rfl rfl ?_
      refine wp_iload dX8_frees_58 rfl rfl ?_
      refine wp_iconst (v := 3) dX8_frees_60 (by decide) rfl ?_
      refine wp_bipush (v := 13) dX8_frees_61 (by decide) rfl ?_
      refine wn_callV3n dX8_frees_63 rRX8_79 (rcv_of o40 rfl) (Nat.le_of_ble_eq_true rfl) rfl rfl rfl (Nat.le_of_ble_eq_true rfl) rfl (c8_put (j := k) (w := 3) (v := 13) hk12 (by decide)) (fun s63 hq63 => ?_)
      subst hq63
      have hF63 : Fr XW s1 (sI s1 (41, 0, 0) (45 + 5 * k + 3) 13) := Fr.rf.pt (by decide)
      have e63 : (sI s1 (41, 0, 0) (45 + 5 * k + 3) 13).1 (41, 0, 0) = outg (s.1 (41, 0, 0)) k := by rw [sI_row, e1]
      refine wp_aload_n dX8_frees_66 rfl rfl ?_
      refine wp_iload_n dX8_frees_67 rfl rfl ?_
      refine wn_callV1i dX8_frees_68 rRX8_162 (rcv_of o40 rfl) (Nat.le_of_ble_eq_true rfl) rfl (Nat.le_of_ble_eq_true rfl) rfl (c8_comeBehind (c := c) (c8 := c8) (hB.fr hF63 (by decide)) (by rw [e63]; exact outg_Q hW hk12) (fun q hq => by rw [e63]; exact upd_ne (by omega)) (by omega)) (fun x68 s68 hq68 => ?_)
      obtain ⟨e68, r68, hF68⟩ := hq68
      rw [e63, ← frV_y hk12] at e68
      subst e68
      refine wp_istore (l' := [_, _, _, _, _, _, some _]) dX8_frees_71 rfl rfl ?_
      refine wp_iload dX8_frees_73 rfl rfl ?_
      refine wp_iload dX8_frees_75 rfl rfl ?_
      refine wp_icmp_le (t := 85) dX8_frees_77 rfl rfl (fun h77 => ?_) (fun h77 => ?_)
      · refine wp_iload_n dX8_frees_85 rfl rfl ?_
        refine wp_istore_n (l' := [_, _, _, some _, _, _, _]) dX8_frees_86 rfl rfl ?_
        refine wp_iload dX8_frees_87 rfl rfl ?_
        refine wp_iload dX8_frees_89 rfl rfl ?_
        refine wp_icmp_le (t := 99) dX8_frees_91 rfl rfl (fun h91 => ?_) (fun h91 => absurd h77 h91)
        refine wp_iload dX8_frees_99 rfl rfl ?_
        refine wp_istore (l' := [_, _, _, _, some _, _, _]) dX8_frees_101 rfl rfl ?_
        refine wp_iinc (l' := [_, _, _, _, _, some _, _]) (v := 1) dX8_frees_103 rfl (by decide) rfl rfl ?_
        refine wp_goto (t := 34) dX8_frees_106 rfl ?_
        rw [nI_1]
        have h := ih hl _ r68 (hB.fr (hF63.tr hF68) (by decide)) (hF.tr ((hF63.tr hF68).wd XW_B)) (some (vI (frV (s.1 (41, 0, 0)) n k)))
        rw [frB, bsg_n (Int32.not_lt.mpr h77)] at h
        exact h
      · refine wp_iload dX8_frees_80 rfl rfl ?_
        refine wp_goto (t := 86) dX8_frees_82 rfl ?_
        refine wp_istore_n (l' := [_, _, _, some _, _, _, _]) dX8_frees_86 rfl rfl ?_
        refine wp_iload dX8_frees_87 rfl rfl ?_
        refine wp_iload dX8_frees_89 rfl rfl ?_
        refine wp_icmp_le (t := 99) dX8_frees_91 rfl rfl (fun h91 => absurd h91 h77) (fun h91 => ?_)
        refine wp_iload dX8_frees_94 rfl rfl ?_
        refine wp_goto (t := 101) dX8_frees_96 rfl ?_
        refine wp_istore (l' := [_, _, _, _, some _, _, _]) dX8_frees_101 rfl rfl ?_
        refine wp_iinc (l' := [_, _, _, _, _, some _, _]) (v := 1) dX8_frees_103 rfl (by decide) rfl rfl ?_
        refine wp_goto (t := 34) dX8_frees_106 rfl ?_
        rw [nI_1]
        have h := ih hl _ r68 (hB.fr (hF63.tr hF68) (by decide)) (hF.tr ((hF63.tr hF68).wd XW_B)) (some (vI (frV (s.1 (41, 0, 0)) n k)))
        rw [frB, bsg_y (show frP (s.1 (41, 0, 0)) k = true from decide_eq_true (Int32.not_le.mp h54)) (Int32.not_le.mp h77)] at h
        exact h
theorem c8_frees {s : Sn} {c c8 : Nat} {x y : Int32} (hW : Wq (s.1 (41, 0, 0)) c c8) : Ca (d + 7) MX8_frees [vR 40 0 0, vI x, vI y] (hN s) (Pv fun z t => z = frA (s.1 (41, 0, 0)) c x y ∧ t.1 (41, 0, 0) = (s.1 (41, 0, 0)) ∧ Fr XB s t) := by
  change Wp _ _ 0 [some _, some _, some _, none, none, none, none] [] _ _
  refine wp_iload_n dX8_frees_0 rfl rfl ?_
  refine wp_iconst (v := 1) dX8_frees_1 (by decide) rfl ?_
  refine wp_bipush (v := 40) dX8_frees_2 (by decide) rfl ?_
  refine wn_callS3d dX8_frees_4 rRX8_75 (Nat.le_of_ble_eq_true rfl) rfl rfl rfl (Nat.le_of_ble_eq_true rfl) rfl (c8_in) ?_
  refine wp_if_eq_b (t := 19) dX8_frees_7 rfl rfl (fun h7 => ?_) (fun h7 => ?_)
  · refine wp_ldc dX8_frees_19 kRX8_83 rfl ?_
    refine wp_iret dX8_frees_21 rfl rfl ?_
    exact ⟨_, _, rfl, rfl, (if_neg (fun z => h7 z.1)).symm, rfl, Fr.rf⟩
  · refine wp_iload_n dX8_frees_10 rfl rfl ?_
    refine wp_iconst (v := 0) dX8_frees_11 (by decide) rfl ?_
    refine wp_iconst (v := 1) dX8_frees_12 (by decide) rfl ?_
    refine wn_callS3d dX8_frees_13 rRX8_75 (Nat.le_of_ble_eq_true rfl) rfl rfl rfl (Nat.le_of_ble_eq_true rfl) rfl (c8_in) ?_
    refine wp_if_ne_b (t := 22) dX8_frees_16 rfl rfl (fun h16 => ?_) (fun h16 => ?_)
    · obtain ⟨n, hn1, hn40, rfl⟩ := one_nat (b := 40) (by omega) h7
      refine wp_aload_n dX8_frees_22 rfl rfl ?_
      refine wn_callV0n dX8_frees_23 rRX8_156 (rcv_of o40 rfl) (Nat.le_of_ble_eq_true rfl)  (Nat.le_of_ble_eq_true rfl) rfl (c8_thinks rfl) (fun s23 hq23 => ?_)
      obtain ⟨hB14, hF14⟩ := hq23
      have e14 := hF14.1 (41, 0, 0) (by decide)
      refine wp_iconst (v := (-1)) dX8_frees_26 (by decide) rfl ?_
      refine wp_istore_n (l' := [_, _, _, some _, _, _, _]) dX8_frees_27 rfl rfl ?_
      refine wp_iconst (v := (-1)) dX8_frees_28 (by decide) rfl ?_
      refine wp_istore (l' := [_, _, _, _, some _, _, _]) dX8_frees_29 rfl rfl ?_
      refine wp_iconst (v := 0) dX8_frees_31 (by decide) rfl ?_
      refine wp_istore (l' := [_, _, _, _, _, some _, _]) dX8_frees_32 rfl rfl ?_
      exact l8_fr hW hn40 ⟨h7, h16⟩ 0 (Nat.zero_le _) _ e14 hB14 (hF14.wd X3_B) _
    · refine wp_ldc dX8_frees_19 kRX8_83 rfl ?_
      refine wp_iret dX8_frees_21 rfl rfl ?_
      exact ⟨_, _, rfl, rfl, (if_neg (fun z => h16 z.2)).symm, rfl, Fr.rf⟩
theorem l7_fr {s : Sn} {f : Fl} {c c8 n : Nat} {y : Int32} (h : RVL s 0 f c c8) (hW : Wr f c c8) (hn : n ≤ 40) (hO : wiO (nI n) y) : ∀ k, k ≤ c → ∀ s1 : Sn, FH s s1 → Wp (d + 6) MX7_frees 32 [some (vR 10 0 0), some (vI (nI n)), some (vI y), some (vI (frB f n nn5 k).1), some (vI (frB f n nn5 k).2), some (vI (nI k))] [] (hN s1) (Pv fun z t => z = frA f c (nI n) y ∧ FH s t) := by
  have hc := hW.1.2.1
  have hcn : cn f = c := hW.1.cn
  refine ind_up (fun k hk ih => ?_)
  intro s1 hF
  have h1 := h.fh hF (by decide)
  have hlc : s1.1 (11, 0, 0) 6 = nI c := (h1.1.1.sc 1 (by decide)).trans hW.1.1
  refine wp_iload dX7_frees_32 rfl rfl ?_
  refine wp_aload_n dX7_frees_34 rfl rfl ?_
  refine wn_getR dX7_frees_35 fRX7_10 o10 rfl rfl rfl ?_
  refine wn_getI dX7_frees_38 fRX7_73 (o11 (by decide)) rfl rfl ?_
  rw [hlc]
  refine wp_icmp_ge (t := 104) dX7_frees_41 rfl rfl (fun h41 => ?_) (fun h41 => ?_)
  · have hk2 : k = c := by have := (nI_leI (by omega) (by omega)).mp h41; omega
    subst hk2
    refine wp_iload_n dX7_frees_104 rfl rfl ?_
    refine wp_if_ne (t := 112) dX7_frees_105 rfl rfl (fun h105 => ?_) (fun h105 => ?_)
    · refine wp_iload dX7_frees_112 rfl rfl ?_
      refine wp_iret dX7_frees_114 rfl rfl ?_
      refine ⟨_, _, rfl, rfl, ?_, hF⟩
      rw [frA_y hO hn, if_neg h105]
    · refine wp_iload_n dX7_frees_108 rfl rfl ?_
      refine wp_goto (t := 114) dX7_frees_109 rfl ?_
      refine wp_iret dX7_frees_114 rfl rfl ?_
      refine ⟨_, _, rfl, rfl, ?_, hF⟩
      rw [frA_y hO hn, if_pos h105]
  · have hl : k < c := by have := mt (nI_leI (by omega) (by omega)).mpr h41; omega
    have hk12 : k < 12 := by omega
    have hE : s1.1 (12, 0, k) 3 = f (45 + 5 * k + 3) := h1.1.1.lg (by omega) hk12 (by decide)
    obtain ⟨q, hq13, hq⟩ := hW.1.2.2.2.2.2 k hk12
    refine wp_aload_n dX7_frees_44 rfl rfl ?_
    refine wn_getR dX7_frees_45 fRX7_10 o10 rfl rfl rfl ?_
    refine wn_getR dX7_frees_48 fRX7_80 (o11 (by decide)) rfl rfl rfl ?_
    refine wp_iload dX7_frees_51 rfl rfl ?_
    refine wn_aald13 dX7_frees_53 (by decide) (nIx rfl (by omega)) hk12 rfl ?_
    refine wn_callV0d dX7_frees_54 rRX7_193 (rcv_of (o12 (by decide) hk12) rfl) (Nat.le_of_ble_eq_true rfl)  (Nat.le_of_ble_eq_true rfl) rfl (c1_isAfloat (by decide) hk12) ?_
    refine wp_if_eq_b (t := 98) dX7_frees_57 rfl rfl (fun h57 => ?_) (fun h57 => ?_)
    · refine wp_iinc (l' := [_, _, _, _, _, some _]) (v := 1) dX7_frees_98 rfl (by decide) rfl rfl ?_
      refine wp_goto (t := 32) dX7_frees_101 rfl ?_
      rw [nI_1]
      have h := ih hl _ hF
      rw [frB, bsg_p (show ¬ frP f k = true from fun z => h57 ⟨by rw [hE, hq]; exact nI_pos' (by omega), by rw [hE]; exact of_decide_eq_true z⟩)] at h
      exact h
    · have ho : f (45 + 5 * k + 3) < 12 := by rw [← hE]; exact h57.2
      refine wp_aload_n dX7_frees_60 rfl rfl ?_
      refine wp_iload dX7_frees_61 rfl rfl ?_
      refine wn_callV1n dX7_frees_63 rRX7_197 (rcv_of o10 rfl) (Nat.le_of_ble_eq_true rfl) rfl (Nat.le_of_ble_eq_true rfl) rfl (c7_without h1 hW.1.2.2.2.1 hl hk12 ho) (fun s63 hq63 => ?_)
      obtain ⟨h63, hF63⟩ := hq63
      refine wp_aload_n dX7_frees_66 rfl rfl ?_
      refine wn_getR dX7_frees_67 fRX7_19 o10 rfl rfl rfl ?_
      refine wp_iload_n dX7_frees_70 rfl rfl ?_
      refine wn_callV1n dX7_frees_71 rRX7_167 (rcv_of (o11 (by decide)) rfl) (Nat.le_of_ble_eq_true rfl) rfl (Nat.le_of_ble_eq_true rfl) rfl (c3_weeksQ (by decide) (by decide) (by omega) h63 (outg_W hW hk12)) (fun s71 hq71 => ?_)
      obtain ⟨h71, hF71⟩ := hq71
      have hF3 := (hF.tr hF63).tr hF71
      refine wp_aload_n dX7_frees_74 rfl rfl ?_
      refine wn_getR dX7_frees_75 fRX7_19 o10 rfl rfl rfl ?_
      refine wn_getI dX7_frees_78 fRX7_161 (o11 (by decide)) rfl rfl ?_
      rw [h71.1.2.1, ← frV_y hk12]
      refine wp_iload dX7_frees_81 rfl rfl ?_
      refine wp_icmp_le (t := 98) dX7_frees_83 rfl rfl (fun h83 => ?_) (fun h83 => ?_)
      · refine wp_iinc (l' := [_, _, _, _, _, some _]) (v := 1) dX7_frees_98 rfl (by decide) rfl rfl ?_
        refine wp_goto (t := 32) dX7_frees_101 rfl ?_
        rw [nI_1]
        have h := ih hl _ hF3
        rw [frB, bsg_n (Int32.not_lt.mpr h83)] at h
        exact h
      · refine wp_iload dX7_frees_86 rfl rfl ?_
        refine wp_istore_n (l' := [_, _, _, some _, _, _]) dX7_frees_88 rfl rfl ?_
        refine wp_aload_n dX7_frees_89 rfl rfl ?_
        refine wn_getR dX7_frees_90 fRX7_19 o10 rfl rfl rfl ?_
        refine wn_getI dX7_frees_93 fRX7_161 (o11 (by decide)) rfl rfl ?_
        rw [h71.1.2.1, ← frV_y hk12]
        refine wp_istore (l' := [_, _, _, _, some _, _]) dX7_frees_96 rfl rfl ?_
        refine wp_iinc (l' := [_, _, _, _, _, some _]) (v := 1) dX7_frees_98 rfl (by decide) rfl rfl ?_
        refine wp_goto (t := 32) dX7_frees_101 rfl ?_
        rw [nI_1]
        have h := ih hl _ hF3
        rw [frB, bsg_y (show frP f k = true from decide_eq_true ho) (Int32.not_le.mp h83)] at h
        exact h
theorem c7_frees {s : Sn} {f : Fl} {c c8 : Nat} {x y : Int32} (h : RVL s 0 f c c8) (hW : Wr f c c8) : Ca (d + 6) MX7_frees [vR 10 0 0, vI x, vI y] (hN s) (Pv fun z t => z = frA f c x y ∧ FH s t) := by
  change Wp _ _ 0 [some _, some _, some _, none, none, none] [] _ _
  refine wp_iload_n dX7_frees_0 rfl rfl ?_
  refine wp_iconst (v := 1) dX7_frees_1 (by decide) rfl ?_
  refine wp_bipush (v := 40) dX7_frees_2 (by decide) rfl ?_
  refine wn_callS3d dX7_frees_4 rRX7_128 (Nat.le_of_ble_eq_true rfl) rfl rfl rfl (Nat.le_of_ble_eq_true rfl) rfl (c7_within) ?_
  refine wp_if_eq_b (t := 19) dX7_frees_7 rfl rfl (fun h7 => ?_) (fun h7 => ?_)
  · refine wp_ldc dX7_frees_19 kRX7_68 rfl ?_
    refine wp_iret dX7_frees_21 rfl rfl ?_
    exact ⟨_, _, rfl, rfl, (if_neg (fun z => h7 z.1)).symm, FH.rf⟩
  · refine wp_iload_n dX7_frees_10 rfl rfl ?_
    refine wp_iconst (v := 0) dX7_frees_11 (by decide) rfl ?_
    refine wp_iconst (v := 1) dX7_frees_12 (by decide) rfl ?_
    refine wn_callS3d dX7_frees_13 rRX7_128 (Nat.le_of_ble_eq_true rfl) rfl rfl rfl (Nat.le_of_ble_eq_true rfl) rfl (c7_within) ?_
    refine wp_if_ne_b (t := 22) dX7_frees_16 rfl rfl (fun h16 => ?_) (fun h16 => ?_)
    · obtain ⟨n, hn1, hn40, rfl⟩ := one_nat (b := 40) (by omega) h7
      refine wp_ldc dX7_frees_22 kRX7_192 rfl ?_
      refine wp_istore_n (l' := [_, _, _, some _, _, _]) dX7_frees_24 rfl rfl ?_
      refine wp_ldc dX7_frees_25 kRX7_192 rfl ?_
      refine wp_istore (l' := [_, _, _, _, some _, _]) dX7_frees_27 rfl rfl ?_
      refine wp_iconst (v := 0) dX7_frees_29 (by decide) rfl ?_
      refine wp_istore (l' := [_, _, _, _, _, some _]) dX7_frees_30 rfl rfl ?_
      exact l7_fr h hW hn40 ⟨h7, h16⟩ 0 (Nat.zero_le _) _ FH.rf
    · refine wp_ldc dX7_frees_19 kRX7_68 rfl ?_
      refine wp_iret dX7_frees_21 rfl rfl ?_
      exact ⟨_, _, rfl, rfl, (if_neg (fun z => h16 z.2)).symm, FH.rf⟩
def lsV (f : Fl) (n n7 c : Nat) : Nat → Nat := fun g => spl (weks n (outg f g)) n7 c 26
def lsG (p : Nat → Bool) (v : Nat → Nat) (a : Nat) : Nat → Int32
  | 0 => 0
  | k + 1 => if p k = true ∧ a ≤ v k then lsG p v a k ||| 1 <<< (nI k &&& 31) else lsG p v a k
theorem lsG_y {p : Nat → Bool} {v : Nat → Nat} {a k : Nat} (hp : p k = true) (h : a ≤ v k) : lsG p v a (k + 1) = lsG p v a k ||| 1 <<< (nI k &&& 31) := if_pos ⟨hp, h⟩
theorem lsG_n {p : Nat → Bool} {v : Nat → Nat} {a k : Nat} (h : ¬ (p k = true ∧ a ≤ v k)) : lsG p v a (k + 1) = lsG p v a k := if_neg h
abbrev lsB (f : Fl) (n n7 c k : Nat) : Int32 := lsG (frP f) (lsV f n n7 c) (spl (weks n f) n7 c 26) k
def lsA (f : Fl) (n7 c : Nat) (x : Int32) : Int32 := if 1 ≤ x ∧ x ≤ 40 then lsB f x.toNatClampNeg n7 c c else -1000000001
theorem lsA_y {f : Fl} {n7 c n : Nat} (h : 1 ≤ nI n ∧ nI n ≤ 40) (hn : n ≤ 40) : lsA f n7 c (nI n) = lsB f n n7 c c := by
  unfold lsA
  rw [if_pos h, nI_clamp (by omega)]
theorem l8_ls {s : Sn} {c c8 n n7 : Nat} (hW : Wq (s.1 (41, 0, 0)) c c8) (hL : LL (s.1 (41, 0, 0)) n7) (hn : n ≤ 40) (hO : 1 ≤ nI n ∧ nI n ≤ 40) : ∀ k, k ≤ c → ∀ s1 : Sn, s1.1 (41, 0, 0) = (s.1 (41, 0, 0)) → BE s1 (s.1 (41, 0, 0)) → Fr XB s s1 → Wp (d + 7) MX8_lost 28 [some (vR 40 0 0), some (vI (nI n)), some (vI (nI (spl (weks n (s.1 (41, 0, 0))) n7 c 26))), some (vI (lsB (s.1 (41, 0, 0)) n n7 c k)), some (vI (nI k))] [] (hN s1) (Pv fun z t => z = lsA (s.1 (41, 0, 0)) n7 c (nI n) ∧ t.1 (41, 0, 0) = (s.1 (41, 0, 0)) ∧ Fr XB s t) := by
  have hc := hW.2.1
  have hb : ∀ g : Fl, spl g n7 c 26 < 2 ^ 31 := fun g => Nat.lt_of_le_of_lt (spl_le hc 26) (by decide)
  refine ind_up (fun k hk ih => ?_)
  intro s1 e1 hB hF
  refine wp_iload dX8_lost_28 rfl rfl ?_
  refine wp_aload_n dX8_lost_30 rfl rfl ?_
  refine wn_getR dX8_lost_31 fRX8_9 o40 rfl rfl rfl ?_
  refine wp_iconst (v := 1) dX8_lost_34 (by decide) rfl ?_
  refine wn_iald (j := 1) dX8_lost_35 (o41 0 rfl) rfl ⟨by decide, by decide⟩ (Nat.le_of_ble_eq_true rfl) rfl ?_
  rw [e1, hW.1]
  refine wp_icmp_ge (t := 86) dX8_lost_36 rfl rfl (fun h36 => ?_) (fun h36 => ?_)
  · have hk2 : k = c := by have := (nI_leI (by omega) (by omega)).mp h36; omega
    subst hk2
    refine wp_iload_n dX8_lost_86 rfl rfl ?_
    refine wp_iret dX8_lost_87 rfl rfl ?_
    refine ⟨_, _, rfl, rfl, ?_, e1, hF⟩
    rw [lsA_y hO hn]
  · have hl : k < c := by have := mt (nI_leI (by omega) (by omega)).mpr h36; omega
    have hk12 : k < 12 := by omega
    refine wp_aload_n dX8_lost_39 rfl rfl ?_
    refine wp_iload dX8_lost_40 rfl rfl ?_
    refine wp_iconst (v := 3) dX8_lost_42 (by decide) rfl ?_
    refine wn_callV2d dX8_lost_43 rRX8_93 (rcv_of o40 rfl) (Nat.le_of_ble_eq_true rfl) rfl rfl (Nat.le_of_ble_eq_true rfl) rfl (c8_of (j := k) (w := 3) hk12 (by decide)) ?_
    refine wp_bipush (v := 12) dX8_lost_46 (by decide) rfl ?_
    rw [e1]
    refine wp_icmp_ge (t := 80) dX8_lost_48 rfl rfl (fun h48 => ?_) (fun h48 => ?_)
    · refine wp_iinc (l' := [_, _, _, _, some _]) (v := 1) dX8_lost_80 rfl (by decide) rfl rfl ?_
      refine wp_goto (t := 28) dX8_lost_83 rfl ?_
      rw [nI_1]
      have h := ih hl _ e1 hB hF
      rw [lsB, lsG_n (fun z => absurd (of_decide_eq_true z.1) (Int32.not_lt.mpr h48))] at h
      exact h
    · refine wp_aload_n dX8_lost_51 rfl rfl ?_
      refine wp_iload dX8_lost_52 rfl rfl ?_
      refine wp_iconst (v := 3) dX8_lost_54 (by decide) rfl ?_
      refine wp_bipush (v := 13) dX8_lost_55 (by decide) rfl ?_
      refine wn_callV3n dX8_lost_57 rRX8_79 (rcv_of o40 rfl) (Nat.le_of_ble_eq_true rfl) rfl rfl rfl (Nat.le_of_ble_eq_true rfl) rfl (c8_put (j := k) (w := 3) (v := 13) hk12 (by decide)) (fun s57 hq57 => ?_)
      subst hq57
      have hF57 : Fr XW s1 (sI s1 (41, 0, 0) (45 + 5 * k + 3) 13) := Fr.rf.pt (by decide)
      have e57 : (sI s1 (41, 0, 0) (45 + 5 * k + 3) 13).1 (41, 0, 0) = outg (s.1 (41, 0, 0)) k := by rw [sI_row, e1]
      refine wp_iload_n dX8_lost_60 rfl rfl ?_
      refine wp_aload_n dX8_lost_61 rfl rfl ?_
      refine wp_iload_n dX8_lost_62 rfl rfl ?_
      refine wn_callV1i dX8_lost_63 rRX8_165 (rcv_of o40 rfl) (Nat.le_of_ble_eq_true rfl) rfl (Nat.le_of_ble_eq_true rfl) rfl (c8_speltBehind (c := c) (c8 := c8) (n7 := n7) (hB.fr hF57 (by decide)) (by rw [e57]; exact outg_Q hW hk12) (fun q hq => by rw [e57]; exact upd_ne (by omega)) (by omega) (by rw [e57]; exact outg_L hL)) (fun x63 s63 hq63 => ?_)
      obtain ⟨e63, r63, hF63⟩ := hq63
      rw [e57] at e63
      subst e63
      refine wp_iload_n dX8_lost_66 rfl rfl ?_
      refine wp_icmp_ge (t := 74) dX8_lost_67 rfl rfl (fun h67 => ?_) (fun h67 => ?_)
      · refine wp_iconst (v := 1) dX8_lost_74 (by decide) rfl ?_
        refine wp_iload dX8_lost_75 rfl rfl ?_
        refine wp_ishl dX8_lost_77 rfl ?_
        refine wp_ior dX8_lost_78 rfl ?_
        refine wp_istore_n (l' := [_, _, _, some _, _]) dX8_lost_79 rfl rfl ?_
        refine wp_iinc (l' := [_, _, _, _, some _]) (v := 1) dX8_lost_80 rfl (by decide) rfl rfl ?_
        refine wp_goto (t := 28) dX8_lost_83 rfl ?_
        rw [nI_1]
        have h := ih hl _ r63 (hB.fr (hF57.tr hF63) (by decide)) (hF.tr ((hF57.tr hF63).wd XW_B))
        rw [lsB, lsG_y (show frP (s.1 (41, 0, 0)) k = true from decide_eq_true (Int32.not_le.mp h48)) ((nI_leI (hb _) (hb _)).mp h67)] at h
        exact h
      · refine wp_iconst (v := 0) dX8_lost_70 (by decide) rfl ?_
        refine wp_goto (t := 78) dX8_lost_71 rfl ?_
        refine wp_ior dX8_lost_78 rfl ?_
        refine wp_istore_n (l' := [_, _, _, some _, _]) dX8_lost_79 rfl rfl ?_
        refine wp_iinc (l' := [_, _, _, _, some _]) (v := 1) dX8_lost_80 rfl (by decide) rfl rfl ?_
        refine wp_goto (t := 28) dX8_lost_83 rfl ?_
        rw [nI_1]
        have h := ih hl _ r63 (hB.fr (hF57.tr hF63) (by decide)) (hF.tr ((hF57.tr hF63).wd XW_B))
        rw [lsB, lsG_n (p := frP (s.1 (41, 0, 0))) (v := lsV (s.1 (41, 0, 0)) n n7 c) (k := k) (fun z => h67 ((nI_leI (hb _) (hb _)).mpr z.2))] at h
        rw [Int32.or_zero]
        exact h
theorem c8_lost {s : Sn} {c c8 n7 : Nat} {x : Int32} (hW : Wq (s.1 (41, 0, 0)) c c8) (hL : LL (s.1 (41, 0, 0)) n7) : Ca (d + 7) MX8_lost [vR 40 0 0, vI x] (hN s) (Pv fun z t => z = lsA (s.1 (41, 0, 0)) n7 c x ∧ t.1 (41, 0, 0) = (s.1 (41, 0, 0)) ∧ Fr XB s t) := by
  change Wp _ _ 0 [some _, some _, none, none, none] [] _ _
  refine wp_iload_n dX8_lost_0 rfl rfl ?_
  refine wp_iconst (v := 1) dX8_lost_1 (by decide) rfl ?_
  refine wp_bipush (v := 40) dX8_lost_2 (by decide) rfl ?_
  refine wn_callS3d dX8_lost_4 rRX8_75 (Nat.le_of_ble_eq_true rfl) rfl rfl rfl (Nat.le_of_ble_eq_true rfl) rfl (c8_in) ?_
  refine wp_if_ne_b (t := 13) dX8_lost_7 rfl rfl (fun h7 => ?_) (fun h7 => ?_)
  · obtain ⟨n, hn1, hn40, rfl⟩ := one_nat (b := 40) (by omega) h7
    refine wp_aload_n dX8_lost_13 rfl rfl ?_
    refine wn_callV0n dX8_lost_14 rRX8_156 (rcv_of o40 rfl) (Nat.le_of_ble_eq_true rfl)  (Nat.le_of_ble_eq_true rfl) rfl (c8_thinks rfl) (fun s14 hq14 => ?_)
    obtain ⟨hB14, hF14⟩ := hq14
    have e14 := hF14.1 (41, 0, 0) (by decide)
    refine wp_aload_n dX8_lost_17 rfl rfl ?_
    refine wp_iload_n dX8_lost_18 rfl rfl ?_
    refine wn_callV1i dX8_lost_19 rRX8_165 (rcv_of o40 rfl) (Nat.le_of_ble_eq_true rfl) rfl (Nat.le_of_ble_eq_true rfl) rfl (c8_speltBehind (c := c) (c8 := c8) (n7 := n7) hB14 (by rw [e14]; exact hW) (fun q hq => by rw [e14]) (by omega) (by rw [e14]; exact hL)) (fun x19 s19 hq19 => ?_)
    obtain ⟨e19, r19, hF19⟩ := hq19
    rw [e19, e14]
    refine wp_istore_n (l' := [_, _, some _, _, _]) dX8_lost_22 rfl rfl ?_
    refine wp_iconst (v := 0) dX8_lost_23 (by decide) rfl ?_
    refine wp_istore_n (l' := [_, _, _, some _, _]) dX8_lost_24 rfl rfl ?_
    refine wp_iconst (v := 0) dX8_lost_25 (by decide) rfl ?_
    refine wp_istore (l' := [_, _, _, _, some _]) dX8_lost_26 rfl rfl ?_
    exact l8_ls hW hL hn40 h7 0 (Nat.zero_le _) _ r19 (hB14.fr hF19 (by decide)) ((hF14.wd X3_B).tr (hF19.wd XW_B))
  · refine wp_ldc dX8_lost_10 kRX8_83 rfl ?_
    refine wp_iret dX8_lost_12 rfl rfl ?_
    exact ⟨_, _, rfl, rfl, (if_neg h7).symm, rfl, Fr.rf⟩
theorem l7_ls {s : Sn} {f : Fl} {c c8 n n7 : Nat} (h : RVL s 0 f c c8) (hW : Wr f c c8) (hL : LL f n7) (hn : n ≤ 40) (hO : 1 ≤ nI n ∧ nI n ≤ 40) : ∀ k, k ≤ c → ∀ s1 : Sn, FH s s1 → Wp (d + 6) MX7_lost 38 [some (vR 10 0 0), some (vI (nI n)), some (vI (nI (spl (weks n f) n7 c 26))), some (vI (lsB f n n7 c k)), some (vI (nI k))] [] (hN s1) (Pv fun z t => z = lsA f n7 c (nI n) ∧ FH s t) := by
  have hc := hW.1.2.1
  have hcn : cn f = c := hW.1.cn
  have hb : ∀ g : Fl, spl g n7 c 26 < 2 ^ 31 := fun g => Nat.lt_of_le_of_lt (spl_le hc 26) (by decide)
  refine ind_up (fun k hk ih => ?_)
  intro s1 hF
  have h1 := h.fh hF (by decide)
  have hlc : s1.1 (11, 0, 0) 6 = nI c := (h1.1.1.sc 1 (by decide)).trans hW.1.1
  refine wp_iload dX7_lost_38 rfl rfl ?_
  refine wp_aload_n dX7_lost_40 rfl rfl ?_
  refine wn_getR dX7_lost_41 fRX7_10 o10 rfl rfl rfl ?_
  refine wn_getI dX7_lost_44 fRX7_73 (o11 (by decide)) rfl rfl ?_
  rw [hlc]
  refine wp_icmp_ge (t := 104) dX7_lost_47 rfl rfl (fun h47 => ?_) (fun h47 => ?_)
  · have hk2 : k = c := by have := (nI_leI (by omega) (by omega)).mp h47; omega
    subst hk2
    refine wp_iload_n dX7_lost_104 rfl rfl ?_
    refine wp_iret dX7_lost_105 rfl rfl ?_
    refine ⟨_, _, rfl, rfl, ?_, hF⟩
    rw [lsA_y hO hn]
  · have hl : k < c := by have := mt (nI_leI (by omega) (by omega)).mpr h47; omega
    have hk12 : k < 12 := by omega
    have hE : s1.1 (12, 0, k) 3 = f (45 + 5 * k + 3) := h1.1.1.lg (by omega) hk12 (by decide)
    obtain ⟨q, hq13, hq⟩ := hW.1.2.2.2.2.2 k hk12
    refine wp_aload_n dX7_lost_50 rfl rfl ?_
    refine wn_getR dX7_lost_51 fRX7_10 o10 rfl rfl rfl ?_
    refine wn_getR dX7_lost_54 fRX7_80 (o11 (by decide)) rfl rfl rfl ?_
    refine wp_iload dX7_lost_57 rfl rfl ?_
    refine wn_aald13 dX7_lost_59 (by decide) (nIx rfl (by omega)) hk12 rfl ?_
    refine wn_callV0d dX7_lost_60 rRX7_193 (rcv_of (o12 (by decide) hk12) rfl) (Nat.le_of_ble_eq_true rfl)  (Nat.le_of_ble_eq_true rfl) rfl (c1_isAfloat (by decide) hk12) ?_
    refine wp_if_eq_b (t := 98) dX7_lost_63 rfl rfl (fun h63 => ?_) (fun h63 => ?_)
    · refine wp_iinc (l' := [_, _, _, _, some _]) (v := 1) dX7_lost_98 rfl (by decide) rfl rfl ?_
      refine wp_goto (t := 38) dX7_lost_101 rfl ?_
      rw [nI_1]
      have h := ih hl _ hF
      rw [lsB, lsG_n (fun z => h63 ⟨by rw [hE, hq]; exact nI_pos' (by omega), by rw [hE]; exact of_decide_eq_true z.1⟩)] at h
      exact h
    · have ho : f (45 + 5 * k + 3) < 12 := by rw [← hE]; exact h63.2
      refine wp_aload_n dX7_lost_66 rfl rfl ?_
      refine wp_iload dX7_lost_67 rfl rfl ?_
      refine wn_callV1n dX7_lost_69 rRX7_197 (rcv_of o10 rfl) (Nat.le_of_ble_eq_true rfl) rfl (Nat.le_of_ble_eq_true rfl) rfl (c7_without h1 hW.1.2.2.2.1 hl hk12 ho) (fun s69 hq69 => ?_)
      obtain ⟨h69, hF69⟩ := hq69
      refine wp_aload_n dX7_lost_72 rfl rfl ?_
      refine wn_getR dX7_lost_73 fRX7_19 o10 rfl rfl rfl ?_
      refine wp_iload_n dX7_lost_76 rfl rfl ?_
      refine wn_callV1n dX7_lost_77 rRX7_167 (rcv_of (o11 (by decide)) rfl) (Nat.le_of_ble_eq_true rfl) rfl (Nat.le_of_ble_eq_true rfl) rfl (c3_weeksQ (by decide) (by decide) (by omega) h69 (outg_W hW hk12)) (fun s77 hq77 => ?_)
      obtain ⟨h77, hF77⟩ := hq77
      have hF3 := (hF.tr hF69).tr hF77
      have hL7 := (outg_L (g := k) hL).weks n
      refine wp_aload_n dX7_lost_80 rfl rfl ?_
      refine wn_getR dX7_lost_81 fRX7_19 o10 rfl rfl rfl ?_
      refine wn_callV0d dX7_lost_84 rRX7_174 (rcv_of (o11 (by decide)) rfl) (Nat.le_of_ble_eq_true rfl)  (Nat.le_of_ble_eq_true rfl) rfl (c3_spelt (by decide) h77.1.1 h77.1.2.2.1 hc hL7.1 hL7.2.1 hL7.2.2) ?_
      refine wp_iload_n dX7_lost_87 rfl rfl ?_
      refine wp_icmp_lt (t := 98) dX7_lost_88 rfl rfl (fun h88 => ?_) (fun h88 => ?_)
      · refine wp_iinc (l' := [_, _, _, _, some _]) (v := 1) dX7_lost_98 rfl (by decide) rfl rfl ?_
        refine wp_goto (t := 38) dX7_lost_101 rfl ?_
        rw [nI_1]
        have h := ih hl _ hF3
        rw [lsB, lsG_n (p := frP f) (v := lsV f n n7 c) (k := k) (fun z => absurd ((nI_leI (hb _) (hb _)).mpr z.2) (Int32.not_le.mpr h88))] at h
        exact h
      · refine wp_iload_n dX7_lost_91 rfl rfl ?_
        refine wp_iconst (v := 1) dX7_lost_92 (by decide) rfl ?_
        refine wp_iload dX7_lost_93 rfl rfl ?_
        refine wp_ishl dX7_lost_95 rfl ?_
        refine wp_ior dX7_lost_96 rfl ?_
        refine wp_istore_n (l' := [_, _, _, some _, _]) dX7_lost_97 rfl rfl ?_
        refine wp_iinc (l' := [_, _, _, _, some _]) (v := 1) dX7_lost_98 rfl (by decide) rfl rfl ?_
        refine wp_goto (t := 38) dX7_lost_101 rfl ?_
        rw [nI_1]
        have h := ih hl _ hF3
        rw [lsB, lsG_y (show frP f k = true from decide_eq_true ho) ((nI_leI (hb _) (hb _)).mp (Int32.not_lt.mp h88))] at h
        exact h
theorem c7_lost {s : Sn} {f : Fl} {c c8 n7 : Nat} {x : Int32} (h : RVL s 0 f c c8) (hW : Wr f c c8) (hL : LL f n7) : Ca (d + 6) MX7_lost [vR 10 0 0, vI x] (hN s) (Pv fun z t => z = lsA f n7 c x ∧ FH s t) := by
  change Wp _ _ 0 [some _, some _, none, none, none] [] _ _
  refine wp_iload_n dX7_lost_0 rfl rfl ?_
  refine wp_iconst (v := 1) dX7_lost_1 (by decide) rfl ?_
  refine wp_bipush (v := 40) dX7_lost_2 (by decide) rfl ?_
  refine wn_callS3d dX7_lost_4 rRX7_128 (Nat.le_of_ble_eq_true rfl) rfl rfl rfl (Nat.le_of_ble_eq_true rfl) rfl (c7_within) ?_
  refine wp_if_ne_b (t := 13) dX7_lost_7 rfl rfl (fun h7 => ?_) (fun h7 => ?_)
  · obtain ⟨n, hn1, hn40, rfl⟩ := one_nat (b := 40) (by omega) h7
    refine wp_aload_n dX7_lost_13 rfl rfl ?_
    refine wn_callV0n dX7_lost_14 rRX7_186 (rcv_of o10 rfl) (Nat.le_of_ble_eq_true rfl)  (Nat.le_of_ble_eq_true rfl) rfl (c7_startThought h hW.1.2.2.2.1) (fun s14 hq14 => ?_)
    obtain ⟨h14, hF14⟩ := hq14
    refine wp_aload_n dX7_lost_17 rfl rfl ?_
    refine wn_getR dX7_lost_18 fRX7_19 o10 rfl rfl rfl ?_
    refine wp_iload_n dX7_lost_21 rfl rfl ?_
    refine wn_callV1n dX7_lost_22 rRX7_167 (rcv_of (o11 (by decide)) rfl) (Nat.le_of_ble_eq_true rfl) rfl (Nat.le_of_ble_eq_true rfl) rfl (c3_weeksQ (by decide) (by decide) (by omega) h14 hW) (fun s22 hq22 => ?_)
    obtain ⟨h22, hF22⟩ := hq22
    have hL2 := hL.weks n
    refine wp_aload_n dX7_lost_25 rfl rfl ?_
    refine wn_getR dX7_lost_26 fRX7_19 o10 rfl rfl rfl ?_
    refine wn_callV0d dX7_lost_29 rRX7_174 (rcv_of (o11 (by decide)) rfl) (Nat.le_of_ble_eq_true rfl)  (Nat.le_of_ble_eq_true rfl) rfl (c3_spelt (by decide) h22.1.1 h22.1.2.2.1 hW.1.2.1 hL2.1 hL2.2.1 hL2.2.2) ?_
    refine wp_istore_n (l' := [_, _, some _, _, _]) dX7_lost_32 rfl rfl ?_
    refine wp_iconst (v := 0) dX7_lost_33 (by decide) rfl ?_
    refine wp_istore_n (l' := [_, _, _, some _, _]) dX7_lost_34 rfl rfl ?_
    refine wp_iconst (v := 0) dX7_lost_35 (by decide) rfl ?_
    refine wp_istore (l' := [_, _, _, _, some _]) dX7_lost_36 rfl rfl ?_
    exact l7_ls h hW hL hn40 h7 0 (Nat.zero_le _) _ (hF14.tr hF22)
  · refine wp_ldc dX7_lost_10 kRX7_68 rfl ?_
    refine wp_iret dX7_lost_12 rfl rfl ?_
    exact ⟨_, _, rfl, rfl, (if_neg h7).symm, FH.rf⟩
end
