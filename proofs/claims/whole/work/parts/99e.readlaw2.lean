/-! THE PURE PART, 85: the class reads a law, whole -/
section
variable {d : Nat}
theorem l2_make {s2 : Sn} {cf wf : Fl} {c h : Nat} {kk pp c1 : Int32} {P : Option Av → St → Prop} (hw : CW s2 cf c wf h) (hc : c ≤ 96) (h7 : s2.1 (20, 0, 0) 7 = pp) (h6 : s2.1 (20, 0, 0) 6 = kk) (kP : P (some (vR 34 s2.2.2.2.1 0)) (hN (mkL s2 kk pp c))) : Wp (d + 7) MX2_readLaw 109 [some (vR 20 0 0), some (vI c1)] [] (hN s2) P := by
  have q : qmk (nm s2).2.2.2.1 = (34, s2.2.2.2.1, 0) := (qmk_law s2.2.2.2.1).1
  have l1 : ∀ k, (lX1 s2).1 (20, 0, 0) k = s2.1 (20, 0, 0) k := fun k => by
    show (if ((20, 0, 0) : Rf) = qmk (nm s2).2.2.2.1 then 0 else s2.1 (20, 0, 0) k) = _
    rw [q, if_neg (fun z => absurd (congrArg Prod.fst z) (by show ¬ 20 = 34; omega))]
  have ok : okr (hs (lX1 s2)) (20, 0, 0) = true := okC (by decide +kernel) (by show 135 ≤ 135 + 3 * s2.2.2.2.1 + 1; omega)
  refine wp_new (s := nm s2) dX2_readLaw_109 nRX2_83 (by rw [q]; rfl) (by rw [q]; exact df34) rfl ?_
  rw [q]
  change Wp _ _ _ _ _ (hs (lX1 s2)) _
  refine wp_dup dX2_readLaw_112 rfl rfl ?_
  refine wp_aload_n dX2_readLaw_113 rfl rfl ?_
  refine wp_getI dX2_readLaw_114 fRX2_35 ok rfl rfl ?_
  rw [l1, h6]
  refine wp_aload_n dX2_readLaw_117 rfl rfl ?_
  refine wp_getI dX2_readLaw_118 fRX2_38 ok rfl rfl ?_
  rw [l1, h7]
  refine wp_aload_n dX2_readLaw_121 rfl rfl ?_
  refine wp_getR (o := some (23, 0, 0)) dX2_readLaw_122 fRX2_18 ok rfl (by
    show (if ((20, 0, 0) : Rf) = qmk (nm s2).2.2.2.1 then none else some ((23, 0, 0) : Rf)) = _
    rw [q, if_neg (fun z => absurd (congrArg Prod.fst z) (by show ¬ 20 = 34; omega))]) rfl ?_
  refine wp_aload_n dX2_readLaw_125 rfl rfl ?_
  refine wp_getI dX2_readLaw_126 fRX2_29 ok rfl rfl ?_
  rw [l1, hw.1]
  refine wp_callI4 dX2_readLaw_129 rRX2_85 (show 5 ≤ 34 by decide) (Nat.le_of_ble_eq_true rfl) rfl rfl rfl rfl (Nat.le_of_ble_eq_true rfl) rfl (c0_init (s := s2) (key := kk) (p := pp) (c := c) hc) (fun v σ1 hv => ?_)
  obtain ⟨rfl, rfl⟩ := hv
  refine wp_aret dX2_readLaw_132 rfl rfl ?_
  rw [lX7_nm]
  exact kP
/-- what reading a law answers -/
def RLW (s : Sn) (R : Bool × Nat × Nat × PZ) (r : Option Rf) (t : Sn) : Prop := (R.1 = false → r = none ∧ t.1 (20, 0, 0) 3 = nI R.2.1 ∧ Fr XC3 s t) ∧ (R.1 = true → ∃ s2, LD s (R.1, R.2.1, R.2.2.2) R.2.2.1 s2 ∧ r = some (34, s2.2.2.2.1, 0) ∧ t = mkL s2 (nI R.2.2.1) (nI (za R.2.2.2)) (zc R.2.2.2))
theorem c2_readLaw {s : Sn} {tp cf wf : Fl} {te : Nat → Bool} {n : Nat} (hn : n ≤ 96) (hT : TP s tp n) (hQ : TQ tp) (hX : TT s) : Ca (d + 7) MX2_readLaw [vR 20 0 0] (hN s) (Pr fun r t => RLW s (txR tp n cf wf te) r t) := by
  change Wp _ _ 0 [some _, none] [] _ _
  refine wp_aload_n dX2_readLaw_0 rfl rfl ?_
  refine wn_callV0n dX2_readLaw_1 rRX2_60 (rcv_of o20 rfl) (Nat.le_of_ble_eq_true rfl)  (Nat.le_of_ble_eq_true rfl) rfl (c2_begin (cf := cf) (wf := wf) (te := te)) (fun s1 hq1 => ?_)
  obtain ⟨h1, e1, hF1⟩ := hq1
  refine wp_aload_n dX2_readLaw_4 rfl rfl ?_
  refine wn_callV0i dX2_readLaw_5 rRX2_63 (rcv_of o20 rfl) (Nat.le_of_ble_eq_true rfl)  (Nat.le_of_ble_eq_true rfl) rfl (c2_nextWord (k := 0) hn (hT.fr hF1 (by decide) (by decide)) hQ (Nat.zero_le _) e1) (fun x5 s5 hq5 => ?_)
  obtain ⟨e5, g5, hF5⟩ := hq5
  subst e5
  have hr := gF_le (tp := tp) (n := n) (k := 0) (Nat.zero_le _)
  have hgn := gN_le (tp := tp) hr.2
  have hgf := gF_le (tp := tp) (n := n) (k := gN tp n (gF tp n 0)) hgn.2.1
  have h5 := h1.nx g5 hF5
  have hF5b : Fr XC3 s s5 := hF1.tr (hF5.wd (by decide))
  have e125 : s5.1 (20, 0, 0) 12 = nI (gF tp n 0) := by rw [g5, upd_ne (by decide), upd_eq]
  have e135 : s5.1 (20, 0, 0) 13 = nI (gN tp n (gF tp n 0)) := by rw [g5, upd_eq]
  have hT5 := hT.fr hF5b (by decide) (by decide)
  have hX5 := hX.fr hF5b
  by_cases hfn : gF tp n 0 < n
  · by_cases he : (kyE tp (gF tp n 0) (gN tp n (gF tp n 0))) < 3
    · refine wp_if_eq_b (t := 18) dX2_readLaw_8 rfl rfl (fun h8 => absurd hfn h8) (fun h8 => ?_)
      refine wp_aload_n dX2_readLaw_11 rfl rfl ?_
      refine wn_callV0i dX2_readLaw_12 rRX2_67 (rcv_of o20 rfl) (Nat.le_of_ble_eq_true rfl)  (Nat.le_of_ble_eq_true rfl) rfl (c2_takesKey (d := d + 1) hn hT5 hQ e125 e135 (by omega) hgn.2.1 hX5) (fun x12 s12 hq12 => ?_)
      obtain ⟨e12k, e12s⟩ := hq12
      subst e12k
      rw [if_pos he] at e12s
      rw [e12s]
      refine wp_if_ne_b (t := 28) dX2_readLaw_15 rfl rfl (fun h15 => ?_) (fun h15 => absurd he h15)
      refine wp_iconst (v := 0) dX2_readLaw_28 (by decide) rfl ?_
      refine wp_istore_n (l' := [_, some _]) dX2_readLaw_29 rfl rfl ?_
      have hL := ky_L hfn he
      have hT1 := gT_L hn hfn hL
      have hps := plp_c (key := nI (kyE tp (gF tp n 0) (gN tp n (gF tp n 0)))) (tp := tp) (n := n) (n + 1) _ (gE tp n (gF tp n 0) (-1)) _ hgf.2 (z0_I (cf := cf) (wf := wf) (te := te))
      refine l2_read (d := d) (s0 := s) (tp := tp) (n := n) (kk := (kyE tp (gF tp n 0) (gN tp n (gF tp n 0)))) (R0 := (plp (nI (kyE tp (gF tp n 0) (gN tp n (gF tp n 0)))) tp n (n + 1) (gF tp n (gN tp n (gF tp n 0))) (gE tp n (gF tp n 0) (-1)) (z0 cf wf te))) hn hT hQ hX he (fun hS s2 c1 hD => ?_) (fun hN0 s2 h3 hF3 => ?_) (n + 1) 0 (gN tp n (gF tp n 0)) (gE tp n (gF tp n 0) (-1)) (z0 cf wf te) _ rfl (by omega) hgn.2.1 (Nat.zero_le _) (EN_L hn hfn hL) ?_ z0_I (fun k hk => absurd hk (by show ¬ k < 0; omega)) ?_ ?_ (hF5b.pt (by decide))
      · refine l2_make hD.1 (by omega) hD.2.1 hD.2.2.1 ?_
        refine ⟨_, _, rfl, rfl, ?_⟩
        rw [show (txR tp n cf wf te) = ((plp (nI (kyE tp (gF tp n 0) (gN tp n (gF tp n 0)))) tp n (n + 1) (gF tp n (gN tp n (gF tp n 0))) (gE tp n (gF tp n 0) (-1)) (z0 cf wf te)).1, (plp (nI (kyE tp (gF tp n 0) (gN tp n (gF tp n 0)))) tp n (n + 1) (gF tp n (gN tp n (gF tp n 0))) (gE tp n (gF tp n 0) (-1)) (z0 cf wf te)).2.1, (kyE tp (gF tp n 0) (gN tp n (gF tp n 0))), (plp (nI (kyE tp (gF tp n 0) (gN tp n (gF tp n 0)))) tp n (n + 1) (gF tp n (gN tp n (gF tp n 0))) (gE tp n (gF tp n 0) (-1)) (z0 cf wf te)).2.2) from (if_pos hT1).trans (if_pos he)]
        exact ⟨fun q => absurd (hS.symm.trans q) (by decide), fun _ => ⟨s2, hD, rfl, rfl⟩⟩
      · refine ⟨_, _, rfl, rfl, ?_⟩
        rw [show (txR tp n cf wf te) = ((plp (nI (kyE tp (gF tp n 0) (gN tp n (gF tp n 0)))) tp n (n + 1) (gF tp n (gN tp n (gF tp n 0))) (gE tp n (gF tp n 0) (-1)) (z0 cf wf te)).1, (plp (nI (kyE tp (gF tp n 0) (gN tp n (gF tp n 0)))) tp n (n + 1) (gF tp n (gN tp n (gF tp n 0))) (gE tp n (gF tp n 0) (-1)) (z0 cf wf te)).2.1, (kyE tp (gF tp n 0) (gN tp n (gF tp n 0))), (plp (nI (kyE tp (gF tp n 0) (gN tp n (gF tp n 0)))) tp n (n + 1) (gF tp n (gN tp n (gF tp n 0))) (gE tp n (gF tp n 0) (-1)) (z0 cf wf te)).2.2) from (if_pos hT1).trans (if_pos he)]
        exact ⟨fun _ => ⟨rfl, h3, hF3⟩, fun q => absurd (hN0.symm.trans q) (by decide)⟩
      · obtain ⟨a1, a2, a3, a4, a5, m, a6, a7⟩ := h5
        exact ⟨a1.cg (by rw [sI_nk (by decide)]) (by rw [sI_nk (by decide)]) (by rw [sI_nr (by decide)]) (by rw [sI_nr (by decide)]), by rw [sI_nk (by decide)]; exact a2, by rw [sI_nk (by decide)]; exact a3, by rw [sI_nk (by decide)]; exact a4, by rw [sI_nk (by decide)]; exact a5, m, a6, by rw [sI_nk (by decide)]; exact a7⟩
      · rw [sI_nk (by decide)]; exact e135
      · rw [sI_row, upd_eq]
    · refine wp_if_eq_b (t := 18) dX2_readLaw_8 rfl rfl (fun h8 => absurd hfn h8) (fun h8 => ?_)
      refine wp_aload_n dX2_readLaw_11 rfl rfl ?_
      refine wn_callV0i dX2_readLaw_12 rRX2_67 (rcv_of o20 rfl) (Nat.le_of_ble_eq_true rfl)  (Nat.le_of_ble_eq_true rfl) rfl (c2_takesKey (d := d + 1) hn hT5 hQ e125 e135 (by omega) hgn.2.1 hX5) (fun x12 s12 hq12 => ?_)
      obtain ⟨e12k, e12s⟩ := hq12
      subst e12k
      rw [if_neg he] at e12s
      rw [e12s]
      refine wp_if_ne_b (t := 28) dX2_readLaw_15 rfl rfl (fun h15 => absurd h15 he) (fun h15 => ?_)
      refine wp_aload_n dX2_readLaw_18 rfl rfl ?_
      refine wp_aload_n dX2_readLaw_19 rfl rfl ?_
      refine wn_getI dX2_readLaw_20 fRX2_54 o20 rfl rfl ?_
      rw [e125]
      refine wn_putI dX2_readLaw_23 fRX2_25 o20 rfl rfl rfl ?_
      refine wp_null dX2_readLaw_26 rfl ?_
      refine wp_aret dX2_readLaw_27 rfl rfl ?_
      refine ⟨_, _, rfl, rfl, ?_⟩
      rw [show (txR tp n cf wf te) = (false, gF tp n 0, 3, z0 cf wf te) from (by unfold txR; rw [if_neg he, ite_self])]
      exact ⟨fun _ => ⟨rfl, by rw [sI_row, upd_eq], (hF5b).pt (by decide)⟩, fun q => absurd q (by show ¬ false = true; decide)⟩
  · refine wp_if_eq_b (t := 18) dX2_readLaw_8 rfl rfl (fun h8 => ?_) (fun h8 => absurd h8 hfn)
    refine wp_aload_n dX2_readLaw_18 rfl rfl ?_
    refine wp_aload_n dX2_readLaw_19 rfl rfl ?_
    refine wn_getI dX2_readLaw_20 fRX2_54 o20 rfl rfl ?_
    rw [e125]
    refine wn_putI dX2_readLaw_23 fRX2_25 o20 rfl rfl rfl ?_
    refine wp_null dX2_readLaw_26 rfl ?_
    refine wp_aret dX2_readLaw_27 rfl rfl ?_
    refine ⟨_, _, rfl, rfl, ?_⟩
    rw [show (txR tp n cf wf te) = (false, gF tp n 0, 3, z0 cf wf te) from if_neg (by rw [show gF tp n 0 = n by omega, gT_n]; decide)]
    exact ⟨fun _ => ⟨rfl, by rw [sI_row, upd_eq], (hF5b).pt (by decide)⟩, fun q => absurd q (by show ¬ false = true; decide)⟩
end
