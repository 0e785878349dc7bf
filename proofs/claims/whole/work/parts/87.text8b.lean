/-! THE PURE PART, 68: the reference's text -/
section
variable {d : Nat}
theorem pst_I {key T v : Int32} {l f : Nat} {z z' : PZ} (h : IV f z) (hp : pst key T v l z = some z') : IV (f + 1) z' := by
  by_cases hw : zwt z = true
  · by_cases hA : T = 3 ∧ v = 33 ∧ nts (zwf z) (zh z) < 8
    · rw [pst_A hw hA] at hp
      obtain rfl := Option.some.inj hp
      exact h.nt hw
    · by_cases hB : T = 3 ∧ v = 40 ∧ zp z < 8
      · rw [pst_B hw hA hB] at hp
        obtain rfl := Option.some.inj hp
        exact h.op hw hB.2.2
      · by_cases hC : ptQ key T v l
        · rw [pst_C hw hA hB hC] at hp
          obtain rfl := Option.some.inj hp
          exact h.pt
        · rw [pst_D hw hA hB hC] at hp
          exact absurd hp (by intro q; cases q)
  · have hw0 : zwt z = false := Bool.eq_false_iff.mpr hw
    by_cases hE : T = 3 ∧ v = 41 ∧ 0 < zp z
    · rw [pst_E hw hE] at hp
      obtain rfl := Option.some.inj hp
      exact (h.cl hw0 hE.2.2).le (by omega)
    · by_cases hF : sgn T v = 0 ∨ (rnk (sgn T v) = 3 ∧ zte z (zp z) = true)
      · rw [pst_F hw hE hF] at hp
        exact absurd hp (by intro q; cases q)
      · rw [pst_G hw hE hF] at hp
        obtain rfl := Option.some.inj hp
        exact (h.sg hw0 (sgn_9 (fun q => hF (Or.inl q)))).1
theorem pst_0 {key v : Int32} {l : Nat} {z : PZ} (hw : zwt z = true) : pst key 0 v l z = none := pst_D hw (fun z => absurd z.1 (by decide)) (fun z => absurd z.1 (by decide)) (fun z => z.elim (fun z => absurd z (by decide)) (fun z => absurd z.1 (by decide)))
theorem plp_c {key : Int32} {tp : Fl} {n : Nat} : ∀ (m f : Nat) (en : Int32) (z : PZ), f ≤ n → IV f z → zc (plp key tp n m f en z).2.2 ≤ n
  | 0, f, en, z, hf, h => by have := h.1; show zc z ≤ n; omega
  | m + 1, f, en, z, hf, h => by
    by_cases hc : zwt z = false ∧ gT tp n f en = 0
    · rw [plp_e hc]
      have h1 := sz_c (z := z) (ls := 0)
      have h2 := h.1
      show zc (sz z 0) ≤ n
      omega
    · cases hp : pst key (gT tp n f en) (gV tp n f 0) (gN tp n f - f) z with
      | none =>
        rw [plp_n hc hp]
        have := h.1
        show zc z ≤ n
        omega
      | some z' =>
        have hfn : f < n := Nat.lt_of_le_of_ne hf (fun q => by
          subst q
          rw [gT_n] at hp hc
          by_cases hw : zwt z = true
          · rw [pst_0 hw] at hp; cases hp
          · exact hc ⟨Bool.eq_false_iff.mpr hw, rfl⟩)
        have hgn := gN_le (tp := tp) hf
        have hgf := gF_le (tp := tp) (n := n) (k := gN tp n f) hgn.2.1
        rw [plp_s hc hp]
        exact plp_c m _ _ _ hgf.2 ((pst_I h hp).le (by have := hgn.2.2 hfn; omega))
theorem kyE_3 {tp : Fl} {f m : Nat} : kyE tp f m ≤ 3 := by
  unfold kyE
  split
  · decide
  · split
    · decide
    · split <;> decide
theorem gT_1 {tp : Fl} {n f : Nat} {en : Int32} (h : gT tp n f en = 1) (hf : f ≤ n) : f < n := Nat.lt_of_le_of_ne hf (fun q => by subst q; rw [gT_n] at h; exact absurd h (by decide))
/-- what reading a text leaves behind -/
def TX (s : Sn) (f : Fl) (c8 : Nat) (r : Bool × Nat × Nat × PZ) (y : Int32) (t : Sn) : Prop := y = ttX r c8 ∧ t.1 (41, 0, 0) = txG f r c8 ∧ t.1 (40, 0, 0) 6 = 0 ∧ (∀ q, q = 3 ∨ q = 32 → t.1 (40, 0, 0) q = s.1 (40, 0, 0) q) ∧ (∃ te, TB t te) ∧ Fr XX s t
theorem c8_text {s : Sn} {tp : Fl} {n c8 : Nat} {te : Nat → Bool} (hn : n ≤ 96) (ht : s.1 (41, 4, 0) = tp) (h6 : s.1 (40, 0, 0) 6 = nI n) (hK : KY s) (hB : TB s te) (hc8 : c8 ≤ 14) (h8 : s.1 (41, 0, 0) 8 = nI c8) : Ca (d + 4) MX8_text [vR 40 0 0] (hN s) (Pv fun y t => TX s (s.1 (41, 0, 0)) c8 (txR tp n (s.1 (41, 7, 0)) (s.1 (41, 8, 0)) te) y t) := by
  change Wp _ _ 0 [some _, none, none, none] [] _ _
  have hr := gF_le (tp := tp) (n := n) (k := 0) (Nat.zero_le _)
  have hgn := gN_le (tp := tp) hr.2
  refine wp_aload_n dX8_text_0 rfl rfl ?_
  refine wp_iconst (v := 0) dX8_text_1 (by decide) rfl ?_
  refine wn_putI dX8_text_2 fRX8_180 o40 rfl rfl rfl ?_
  refine wp_aload_n dX8_text_5 rfl rfl ?_
  refine wp_iconst (v := (-1)) dX8_text_6 (by decide) rfl ?_
  refine wn_putI dX8_text_7 fRX8_186 o40 rfl rfl rfl ?_
  refine wp_aload_n dX8_text_10 rfl rfl ?_
  refine wn_callV0n dX8_text_11 rRX8_204 (rcv_of o40 rfl) (Nat.le_of_ble_eq_true rfl)  (Nat.le_of_ble_eq_true rfl) rfl (c8_go (tp := tp) (n := n) (k := 0) hn (Nat.zero_le _) (by rw [sI_nr (by decide), sI_nr (by decide)]; exact ht) (by rw [sI_nk (by decide), sI_nk (by decide)]; exact h6) (by rw [sI_nk (by decide), sI_row, upd_eq]; rfl)) (fun s11 hq11 => ?_)
  obtain ⟨g11, hF11⟩ := hq11
  have htk := g11.tk
  rw [show (sI (sI s (40, 0, 0) 7 0) (40, 0, 0) 11 (-1)).1 (40, 0, 0) 11 = -1 by rw [sI_row, upd_eq]] at htk
  have hF11b : Fr XX s s11 := ((Fr.rf.pt (by decide)).pt (by decide)).tr (hF11.wd (by decide))
  have ht11 : s11.1 (41, 4, 0) = tp := by rw [hF11.1 _ (by decide), sI_nr (by decide), sI_nr (by decide)]; exact ht
  have h611 : s11.1 (40, 0, 0) 6 = nI n := by rw [g11.2 6 (by decide), sI_nk (by decide), sI_nk (by decide)]; exact h6
  have hB11 : TB s11 te := fun k hk => by rw [hF11.1 _ (by decide), sI_nr (by decide), sI_nr (by decide)]; exact hB k hk
  have hK11 : KY s11 := by
    refine ⟨fun k hk => ?_, ?_, ?_, ?_, ?_⟩
    · rw [hF11.1 _ (by decide), sI_nr (by decide), sI_nr (by decide)]; exact hK.1 k hk
    · rw [hF11.1 _ (by decide), sI_nr (by decide), sI_nr (by decide)]; exact hK.2.1
    · rw [hF11.1 _ (by decide), sI_nr (by decide), sI_nr (by decide)]; exact hK.2.2.1
    · rw [hF11.1 _ (by decide), sI_nr (by decide), sI_nr (by decide)]; exact hK.2.2.2.1
    · rw [hF11.1 _ (by decide), sI_nr (by decide), sI_nr (by decide)]; exact hK.2.2.2.2
  have hk1 : ∀ q, q = 3 ∨ q = 32 → s11.1 (40, 0, 0) q = s.1 (40, 0, 0) q := fun q hq => by rw [g11.2 q (by rcases hq with q2 | q2 <;> rw [q2] <;> decide), sI_nk (by rcases hq with q2 | q2 <;> rw [q2] <;> decide), sI_nk (by rcases hq with q2 | q2 <;> rw [q2] <;> decide)]
  by_cases hT1 : gT tp n (gF tp n 0) (-1) = 1
  · have hf0n := gT_1 hT1 hr.2
    by_cases he : (kyE tp (gF tp n 0) (gN tp n (gF tp n 0))) < 3
    · refine wp_aload_n dX8_text_14 rfl rfl ?_
      refine wn_callV0i dX8_text_15 rRX8_235 (rcv_of o40 rfl) (Nat.le_of_ble_eq_true rfl)  (Nat.le_of_ble_eq_true rfl) rfl (c8_takesKey (tp := tp) (n := n) hn ht11 h611 htk.2.1 htk.1 (htk.2.2.1.trans hT1) (hgn.2.2 hf0n) hgn.2.1 hK11) (fun x15 s15 hq15 => ?_)
      obtain ⟨e15, g15, hF15⟩ := hq15.2 he
      subst e15
      have tk15 := g15.tk
      rw [upd_ne (by decide), htk.2.2.2.2] at tk15
      have hF15b : Fr XX s s15 := hF11b.tr (hF15.wd (by decide))
      have c7 : s15.1 (41, 7, 0) = s.1 (41, 7, 0) := by rw [hF15.1 _ (by decide), hF11.1 _ (by decide), sI_nr (by decide), sI_nr (by decide)]
      have c8e : s15.1 (41, 8, 0) = s.1 (41, 8, 0) := by rw [hF15.1 _ (by decide), hF11.1 _ (by decide), sI_nr (by decide), sI_nr (by decide)]
      have c4 : s15.1 (41, 4, 0) = tp := by rw [hF15.1 _ (by decide)]; exact ht11
      have c6 : s15.1 (40, 0, 0) 6 = nI n := by rw [g15.2 6 (by decide), upd_ne (by decide)]; exact h611
      have c12 : s15.1 (40, 0, 0) 12 = nI (kyE tp (gF tp n 0) (gN tp n (gF tp n 0))) := by rw [g15.2 12 (by decide), upd_eq]
      have cB : TB s15 te := fun k hk => by rw [hF15.1 _ (by decide)]; exact hB11 k hk
      have hgf := gF_le (tp := tp) (n := n) (k := gN tp n (gF tp n 0)) hgn.2.1
      have hk15 : ∀ q, q = 3 ∨ q = 32 → s15.1 (40, 0, 0) q = s.1 (40, 0, 0) q := fun q hq => by rw [g15.2 q (by rcases hq with q2 | q2 <;> rw [q2] <;> decide), upd_ne (by rcases hq with q2 | q2 <;> rw [q2] <;> decide)]; exact hk1 q hq
      refine wp_if_eq (t := 32) dX8_text_18 rfl rfl (fun h18 => absurd h18 (by decide)) (fun h18 => ?_)
      refine wp_aload_n dX8_text_21 rfl rfl ?_
      refine wn_callV0i dX8_text_22 rRX8_238 (rcv_of o40 rfl) (Nat.le_of_ble_eq_true rfl)  (Nat.le_of_ble_eq_true rfl) rfl (c8_takesE (te := te) hn hgf.2 c4 c6 c12 tk15 cB) (fun x22 s22 hq22 => ?_)
      obtain ⟨ey, hz, hz8, hO⟩ := hq22
      rw [c7, c8e] at ey hz hz8
      subst ey
      have hcc := plp_c (key := nI (kyE tp (gF tp n 0) (gN tp n (gF tp n 0)))) (tp := tp) (n := n) (n + 1) _ (gE tp n (gF tp n 0) (-1)) _ hgf.2 (z0_I (cf := s.1 (41, 7, 0)) (wf := s.1 (41, 8, 0)) (te := te))
      have k12 : s22.1 (40, 0, 0) 12 = nI (kyE tp (gF tp n 0) (gN tp n (gF tp n 0))) := (hO.1 12 (by decide)).trans c12
      have hk22 : ∀ q, q = 3 ∨ q = 32 → s22.1 (40, 0, 0) q = s.1 (40, 0, 0) q := fun q hq => (hO.1 q (by rcases hq with q2 | q2 <;> rw [q2] <;> decide)).trans (hk15 q hq)
      have hF22 : Fr XX s s22 := hF15b.tr (hO.2.wd (by decide))
      have e220 : s22.1 (41, 0, 0) = (s.1 (41, 0, 0)) := by rw [hO.2.1 _ (by decide), hF15.1 _ (by decide), hF11.1 _ (by decide), sI_nr (by decide), sI_nr (by decide)]
      refine wp_if_eq_b (t := 32) dX8_text_25 rfl rfl (fun h25 => ?_) (fun h25 => ?_)
      · refine wp_iconst (v := 0) dX8_text_32 (by decide) rfl ?_
        refine wp_istore_n (l' := [_, some _, _, _]) dX8_text_33 rfl rfl ?_
        refine (l8_txN (d := d) hz8).conseq ?_
        rintro v σ ⟨y, t, rfl, rfl, q1, q2⟩
        subst q2
        rw [show (txR tp n (s.1 (41, 7, 0)) (s.1 (41, 8, 0)) te) = ((plp (nI (kyE tp (gF tp n 0) (gN tp n (gF tp n 0)))) tp n (n + 1) (gF tp n (gN tp n (gF tp n 0))) (gE tp n (gF tp n 0) (-1)) (z0 (s.1 (41, 7, 0)) (s.1 (41, 8, 0)) te)).1, (plp (nI (kyE tp (gF tp n 0) (gN tp n (gF tp n 0)))) tp n (n + 1) (gF tp n (gN tp n (gF tp n 0))) (gE tp n (gF tp n 0) (-1)) (z0 (s.1 (41, 7, 0)) (s.1 (41, 8, 0)) te)).2.1, (kyE tp (gF tp n 0) (gN tp n (gF tp n 0))), (plp (nI (kyE tp (gF tp n 0) (gN tp n (gF tp n 0)))) tp n (n + 1) (gF tp n (gN tp n (gF tp n 0))) (gE tp n (gF tp n 0) (-1)) (z0 (s.1 (41, 7, 0)) (s.1 (41, 8, 0)) te)).2.2) from (if_pos hT1).trans (if_pos he)]
        refine ⟨y, _, rfl, rfl, q1.trans (if_neg h25).symm, ?_, by rw [sI_row, upd_eq], fun q hq => ?_, ⟨_, fun k hk => by rw [sI_nr (by decide)]; exact hz.2.2.2.2.2 k hk⟩, hF22.pt (by decide)⟩
        · rw [sI_nr (by decide), e220]; exact (if_neg (fun q => h25 q.1)).symm
        · rw [sI_nk (by rcases hq with q2 | q2 <;> rw [q2] <;> decide)]; exact hk22 q hq
      · refine wp_iconst (v := 1) dX8_text_28 (by decide) rfl ?_
        refine wp_goto (t := 33) dX8_text_29 rfl ?_
        refine wp_istore_n (l' := [_, some _, _, _]) dX8_text_33 rfl rfl ?_
        refine (l8_txS (d := d) (f0 := (s.1 (41, 0, 0))) (c8 := c8) (e := (kyE tp (gF tp n 0) (gN tp n (gF tp n 0)))) (z := (plp (nI (kyE tp (gF tp n 0) (gN tp n (gF tp n 0)))) tp n (n + 1) (gF tp n (gN tp n (gF tp n 0))) (gE tp n (gF tp n 0) (-1)) (z0 (s.1 (41, 7, 0)) (s.1 (41, 8, 0)) te)).2.2) e220 hc8 (by omega) h8 hz k12).conseq ?_
        rintro v σ ⟨y, t, rfl, rfl, q1, q2, q3, q4⟩
        rw [show (txR tp n (s.1 (41, 7, 0)) (s.1 (41, 8, 0)) te) = ((plp (nI (kyE tp (gF tp n 0) (gN tp n (gF tp n 0)))) tp n (n + 1) (gF tp n (gN tp n (gF tp n 0))) (gE tp n (gF tp n 0) (-1)) (z0 (s.1 (41, 7, 0)) (s.1 (41, 8, 0)) te)).1, (plp (nI (kyE tp (gF tp n 0) (gN tp n (gF tp n 0)))) tp n (n + 1) (gF tp n (gN tp n (gF tp n 0))) (gE tp n (gF tp n 0) (-1)) (z0 (s.1 (41, 7, 0)) (s.1 (41, 8, 0)) te)).2.1, (kyE tp (gF tp n 0) (gN tp n (gF tp n 0))), (plp (nI (kyE tp (gF tp n 0) (gN tp n (gF tp n 0)))) tp n (n + 1) (gF tp n (gN tp n (gF tp n 0))) (gE tp n (gF tp n 0) (-1)) (z0 (s.1 (41, 7, 0)) (s.1 (41, 8, 0)) te)).2.2) from (if_pos hT1).trans (if_pos he)]
        refine ⟨y, t, rfl, rfl, q1.trans (if_pos h25).symm, ?_, by rw [q3, upd_eq], fun q hq => ?_, ⟨_, fun k hk => by rw [q4.1 _ (by decide)]; exact hz.2.2.2.2.2 k hk⟩, hF22.tr (q4.wd (by decide))⟩
        · rw [q2]
          by_cases h14 : c8 = 14
          · rw [if_pos h14]; exact (if_neg (fun q => q.2 h14)).symm
          · rw [if_neg h14]; exact (if_pos (⟨h25, h14⟩ : _ ∧ _)).symm
        · rw [q3, upd_ne (by rcases hq with q2 | q2 <;> rw [q2] <;> decide)]; exact hk22 q hq
    · have he3 : (kyE tp (gF tp n 0) (gN tp n (gF tp n 0))) = 3 := by have := kyE_3 (tp := tp) (f := gF tp n 0) (m := gN tp n (gF tp n 0)); omega
      refine wp_aload_n dX8_text_14 rfl rfl ?_
      refine wn_callV0i dX8_text_15 rRX8_235 (rcv_of o40 rfl) (Nat.le_of_ble_eq_true rfl)  (Nat.le_of_ble_eq_true rfl) rfl (c8_takesKey (tp := tp) (n := n) hn ht11 h611 htk.2.1 htk.1 (htk.2.2.1.trans hT1) (hgn.2.2 hf0n) hgn.2.1 hK11) (fun x15 s15 hq15 => ?_)
      obtain ⟨e15, e15s⟩ := hq15.1 he3
      subst e15
      rw [e15s]
      refine wp_if_eq (t := 32) dX8_text_18 rfl rfl (fun h18 => ?_) (fun h18 => absurd rfl h18)
      refine wp_iconst (v := 0) dX8_text_32 (by decide) rfl ?_
      refine wp_istore_n (l' := [_, some _, _, _]) dX8_text_33 rfl rfl ?_
      refine (l8_txN (d := d) htk.1).conseq ?_
      rintro v σ ⟨y, t, rfl, rfl, q1, q2⟩
      subst q2
      rw [show (txR tp n (s.1 (41, 7, 0)) (s.1 (41, 8, 0)) te) = (false, gF tp n 0, 3, z0 (s.1 (41, 7, 0)) (s.1 (41, 8, 0)) te) from (if_pos hT1).trans (if_neg he)]
      refine ⟨y, _, rfl, rfl, q1.trans (if_neg (show ¬ false = true by decide)).symm, ?_, by rw [sI_row, upd_eq], fun q hq => ?_, ⟨te, fun k hk => by rw [sI_nr (by decide)]; exact hB11 k hk⟩, (hF11b).pt (by decide)⟩
      · rw [sI_nr (by decide), hF11.1 (41, 0, 0) (by decide), sI_nr (by decide), sI_nr (by decide)]; exact (if_neg (fun q => absurd q.1 (show ¬ false = true by decide))).symm
      · rw [sI_nk (by rcases hq with q2 | q2 <;> rw [q2] <;> decide)]; exact hk1 q hq
  · refine wp_aload_n dX8_text_14 rfl rfl ?_
    refine wn_callV0d dX8_text_15 rRX8_235 (rcv_of o40 rfl) (Nat.le_of_ble_eq_true rfl)  (Nat.le_of_ble_eq_true rfl) rfl (c8_takesKeyN (by rw [htk.2.2.1]; exact hT1)) ?_
    refine wp_if_eq (t := 32) dX8_text_18 rfl rfl (fun h18 => ?_) (fun h18 => absurd rfl h18)
    refine wp_iconst (v := 0) dX8_text_32 (by decide) rfl ?_
    refine wp_istore_n (l' := [_, some _, _, _]) dX8_text_33 rfl rfl ?_
    refine (l8_txN (d := d) htk.1).conseq ?_
    rintro v σ ⟨y, t, rfl, rfl, q1, q2⟩
    subst q2
    rw [show (txR tp n (s.1 (41, 7, 0)) (s.1 (41, 8, 0)) te) = (false, gF tp n 0, 3, z0 (s.1 (41, 7, 0)) (s.1 (41, 8, 0)) te) from if_neg hT1]
    refine ⟨y, _, rfl, rfl, q1.trans (if_neg (show ¬ false = true by decide)).symm, ?_, by rw [sI_row, upd_eq], fun q hq => ?_, ⟨te, fun k hk => by rw [sI_nr (by decide)]; exact hB11 k hk⟩, (hF11b).pt (by decide)⟩
    · rw [sI_nr (by decide), hF11.1 (41, 0, 0) (by decide), sI_nr (by decide), sI_nr (by decide)]; exact (if_neg (fun q => absurd q.1 (show ¬ false = true by decide))).symm
    · rw [sI_nk (by rcases hq with q2 | q2 <;> rw [q2] <;> decide)]; exact hk1 q hq
end
