/-! THE PURE PART, 71: the class's reader takes a piece, a sign -/
section
variable {d : Nat}
def tbt (m : Nat) (z : PZ) : Prop := m < 512 ∧ ∀ k, k ≤ zp z → Nat.testBit m k = zte z k
/-- the class's reader stands for a text as it is read -/
def CR (z : PZ) (s : Sn) : Prop := CW s (zcf z) (zc z) (zwf z) (zh z) ∧ s.1 (20, 0, 0) 7 = nI (za z) ∧ s.1 (20, 0, 0) 8 = nI (zp z) ∧ s.1 (20, 0, 0) 9 = nI (nts (zwf z) (zh z)) ∧ s.1 (20, 0, 0) 11 = bI (zwt z = true) ∧ ∃ m, tbt m z ∧ s.1 (20, 0, 0) 10 = nI m
/-- what reading leaves alone in the reader -/
def OR2 (s t : Sn) : Prop := (∀ q, q = 6 ∨ q = 3 ∨ q = 12 ∨ q = 13 → t.1 (20, 0, 0) q = s.1 (20, 0, 0) q) ∧ Fr XC3 s t
theorem OR2.rf {s : Sn} : OR2 s s := ⟨fun _ _ => rfl, Fr.rf⟩
theorem OR2.tr {a b c : Sn} (h1 : OR2 a b) (h2 : OR2 b c) : OR2 a c := ⟨fun q hq => (h2.1 q hq).trans (h1.1 q hq), h1.2.tr h2.2⟩
theorem CW.ad {s : Sn} {cf wf : Fl} {c h : Nat} {x : Int32} (hc : CW s cf c wf h) (hx : trC x = x) : CW (sI (sI s (23, 0, 0) c x) (20, 0, 0) 4 (nI (c + 1))) (upd cf c x) (c + 1) wf h := by
  obtain ⟨h1, h2, h3, h4⟩ := hc
  refine ⟨?_, fun k hk => ?_, ?_, fun k hk => ?_⟩
  · rw [sI_row, upd_eq]
  · rw [sI_nr (by decide), sI_row]
    by_cases e : k = c
    · rw [e, upd_eq, upd_eq, hx]
    · rw [upd_ne e, upd_ne e]; exact h2 k (by omega)
  · rw [sI_nk (by decide), sI_nr (by decide)]; exact h3
  · rw [sI_nr (by decide), sI_nr (by decide)]; exact h4 k hk
theorem CW.cg {s t : Sn} {cf wf : Fl} {c h : Nat} (hc : CW s cf c wf h) (h4 : t.1 (20, 0, 0) 4 = s.1 (20, 0, 0) 4) (h5 : t.1 (20, 0, 0) 5 = s.1 (20, 0, 0) 5) (h23 : t.1 (23, 0, 0) = s.1 (23, 0, 0)) (h24 : t.1 (24, 0, 0) = s.1 (24, 0, 0)) : CW t cf c wf h := ⟨h4.trans hc.1, fun k hk => by rw [h23]; exact hc.2.1 k hk, h5.trans hc.2.2.1, fun k hk => by rw [h24]; exact hc.2.2.2 k hk⟩
theorem c2_addPiece {s : Sn} {z : PZ} {x : Int32} (h : CR z s) (hc : zc z < 96) (hx : trC x = x) : Ca (d + 1) MX2_addPiece [vR 20 0 0, vI x] (hN s) (Pn fun t => CR (cdZ z x) t ∧ OR2 s t) := by
  change Wp _ _ 0 [some _, some _] [] _ _
  refine wp_aload_n dX2_addPiece_0 rfl rfl ?_
  refine wp_iload_n dX2_addPiece_1 rfl rfl ?_
  refine wn_callV1n dX2_addPiece_2 rRX2_160 (rcv_of o20 rfl) (Nat.le_of_ble_eq_true rfl) rfl (Nat.le_of_ble_eq_true rfl) rfl (c2_addCode hc h.1.1) (fun s2 hq2 => ?_)
  subst hq2
  refine wp_aload_n dX2_addPiece_5 rfl rfl ?_
  refine wp_dup dX2_addPiece_6 rfl rfl ?_
  refine wn_getI dX2_addPiece_7 fRX2_38 o20 rfl rfl ?_
  rw [sI_nk (by decide), sI_nr (by decide), h.2.1]
  refine wp_iconst (v := 1) dX2_addPiece_10 (by decide) rfl ?_
  refine wp_iadd dX2_addPiece_11 rfl ?_
  rw [nI_1]
  refine wn_putI dX2_addPiece_12 fRX2_38 o20 rfl rfl rfl ?_
  refine wp_aload_n dX2_addPiece_15 rfl rfl ?_
  refine wp_iconst (v := 0) dX2_addPiece_16 (by decide) rfl ?_
  refine wn_putZ dX2_addPiece_17 fRX2_50 o20 rfl rfl (by decide) rfl ?_
  refine wp_ret dX2_addPiece_20 rfl ?_
  obtain ⟨a1, a2, a3, a4, a5, m, a6, a7⟩ := h
  refine ⟨_, rfl, rfl, ⟨(a1.ad hx).cg (by rw [sI_nk (by decide), sI_nk (by decide)]) (by rw [sI_nk (by decide), sI_nk (by decide)]) (by rw [sI_nr (by decide), sI_nr (by decide)]) (by rw [sI_nr (by decide), sI_nr (by decide)]), ?_, ?_, ?_, ?_, m, a6, ?_⟩, fun q hq => ?_, (((Fr.rf.pt (by decide)).pt (by decide)).pt (by decide)).pt (by decide)⟩
  · rw [sI_nk (by decide), sI_row, upd_eq]; rfl
  · rw [sI_nk (by decide), sI_nk (by decide), sI_nk (by decide), sI_nr (by decide)]; exact a3
  · rw [sI_nk (by decide), sI_nk (by decide), sI_nk (by decide), sI_nr (by decide)]; exact a4
  · rw [sI_row, upd_eq]; rfl
  · rw [sI_nk (by decide), sI_nk (by decide), sI_nk (by decide), sI_nr (by decide)]; exact a7
  · rcases hq with q1 | q1 | q1 | q1 <;> subst q1 <;> rw [sI_nk (by decide), sI_nk (by decide), sI_nk (by decide), sI_nr (by decide)]
theorem num_b {tp : Fl} {f : Nat} : ∀ j, j ≤ 4 → (∀ k, k < j → 48 ≤ tp (f + k) ∧ tp (f + k) ≤ 57) → ∃ m, m < 10 ^ j ∧ num tp f j = nI m
  | 0, _, _ => ⟨0, by decide, rfl⟩
  | j + 1, hj, h => by
    obtain ⟨m, hm, e⟩ := num_b j (by omega) (fun k hk => h k (by omega))
    have hd := h j (by omega)
    obtain ⟨b, hb, e2⟩ := nI_of (x := tp (f + j)) (fun z => absurd (Int32.lt_of_le_of_lt hd.1 z) (by decide))
    rw [e2] at hd
    have h1 := (nI_leI (a := 48) (by decide) hb).mp hd.1
    have h2 := (nI_leI (b := 57) hb (by decide)).mp hd.2
    have h10 : 10 ^ j ≤ 1000 := Nat.pow_le_pow_right (n := 10) (by decide) (show j ≤ 3 by omega)
    refine ⟨10 * m + (b - 48), ?_, ?_⟩
    · rw [Nat.pow_succ]; omega
    · rw [num, e, e2, show (10 : Int32) = nI 10 from rfl, pk_mul, nI_add, show (48 : Int32) = nI 48 from rfl, nI_subn (by omega), show 10 * m + b - 48 = 10 * m + (b - 48) by omega]
theorem trC_p {m : Nat} (h : m < 2 ^ 31) : trC (nI m) = nI m := if_pos (nI_pos' h)
theorem btF {tp : Fl} {n k : Nat} (hn : n ≤ 96) (hQ : TQ tp) (hF : isF tp n k) : btA tp n k = tp k := by
  obtain ⟨b, hb, e⟩ := hQ k (by have := hF.1; omega)
  have h1 := hF.2
  rw [e] at h1
  have h2 := (nI_leI (b := 57) (by omega) (by decide)).mp h1.2
  unfold btA
  rw [if_pos hF.1, e, (i8_v hb).1 (by omega)]
theorem l2_num {s : Sn} {tp : Fl} {n f e : Nat} {P : Option Av → St → Prop} (hn : n ≤ 96) (hT : TP s tp n) (hQ : TQ tp) (e12 : s.1 (20, 0, 0) 12 = nI f) (e13 : s.1 (20, 0, 0) 13 = nI e) (hfe : f ≤ e) (hen : e ≤ n) (hd : ∀ k, f ≤ k → k < e → isF tp n k) (kk : Wp (d + 2) MX2_takesNumber 53 [some (vR 20 0 0), some (vI (num tp f (e - f))), some (vI (nI e))] [] (hN s) P) : ∀ k, k ≤ e → f ≤ k → Wp (d + 2) MX2_takesNumber 22 [some (vR 20 0 0), some (vI (num tp f (k - f))), some (vI (nI k))] [] (hN s) P := by
  refine ind_up (fun k hk ih hfk => ?_)
  refine wp_iload_n dX2_takesNumber_22 rfl rfl ?_
  refine wp_aload_n dX2_takesNumber_23 rfl rfl ?_
  refine wn_getI dX2_takesNumber_24 fRX2_57 o20 rfl rfl ?_
  rw [e13]
  refine wp_icmp_ge (t := 53) dX2_takesNumber_27 rfl rfl (fun h27 => ?_) (fun h27 => ?_)
  · have hk2 : k = e := by have := (nI_leI (by omega) (by omega)).mp h27; omega
    rw [hk2]
    exact kk
  · have hl : k < e := by have := mt (nI_leI (by omega) (by omega)).mpr h27; omega
    refine wp_iload_n dX2_takesNumber_30 rfl rfl ?_
    refine wp_bipush (v := 10) dX2_takesNumber_31 (by decide) rfl ?_
    refine wp_imul dX2_takesNumber_33 rfl ?_
    refine wp_aload_n dX2_takesNumber_34 rfl rfl ?_
    refine wn_getR dX2_takesNumber_35 fRX2_12 o20 rfl rfl rfl ?_
    refine wp_iload_n dX2_takesNumber_38 rfl rfl ?_
    refine wn_callV1d dX2_takesNumber_39 rRX2_88 (rcv_of o21 rfl) (Nat.le_of_ble_eq_true rfl) rfl (Nat.le_of_ble_eq_true rfl) rfl (c6_byteAt hn (by omega) hT) ?_
    rw [btF hn hQ (hd k hfk hl)]
    refine wp_iadd dX2_takesNumber_42 rfl ?_
    refine wp_bipush (v := 48) dX2_takesNumber_43 (by decide) rfl ?_
    refine wp_isub dX2_takesNumber_45 rfl ?_
    refine wp_istore_n (l' := [_, some _, _]) dX2_takesNumber_46 rfl rfl ?_
    refine wp_iinc (l' := [_, _, some _]) (v := 1) dX2_takesNumber_47 rfl (by decide) rfl rfl ?_
    refine wp_goto (t := 22) dX2_takesNumber_50 rfl ?_
    have hs : num tp f (k + 1 - f) = num tp f (k - f) * 10 + tp k - 48 := by
      rw [show k + 1 - f = (k - f) + 1 by omega, num, show f + (k - f) = k by omega, Int32.mul_comm]
    have h := ih hl (by omega)
    rw [hs] at h
    rw [nI_1]
    exact h
theorem c2_takesNumber {s : Sn} {tp : Fl} {n f e : Nat} {z : PZ} (hn : n ≤ 96) (hT : TP s tp n) (hQ : TQ tp) (e12 : s.1 (20, 0, 0) 12 = nI f) (e13 : s.1 (20, 0, 0) 13 = nI e) (hfe : f ≤ e) (hen : e ≤ n) (hd : ∀ k, f ≤ k → k < e → isF tp n k) (h : CR z s) (hc : zc z < 96) (h4 : e - f ≤ 4) : Ca (d + 2) MX2_takesNumber [vR 20 0 0] (hN s) (Pv fun y t => y = 1 ∧ CR (cdZ z (num tp f (e - f))) t ∧ OR2 s t) := by
  change Wp _ _ 0 [some _, none, none] [] _ _
  refine wp_aload_n dX2_takesNumber_0 rfl rfl ?_
  refine wn_getI dX2_takesNumber_1 fRX2_57 o20 rfl rfl ?_
  rw [e13]
  refine wp_aload_n dX2_takesNumber_4 rfl rfl ?_
  refine wn_getI dX2_takesNumber_5 fRX2_54 o20 rfl rfl ?_
  refine wp_isub dX2_takesNumber_8 rfl ?_
  rw [e12, nI_subn hfe]
  refine wp_iconst (v := 4) dX2_takesNumber_9 (by decide) rfl ?_
  refine wp_icmp_le (t := 15) dX2_takesNumber_10 rfl rfl (fun h10 => ?_) (fun h10 => absurd ((nI_leI (b := 4) (by omega) (by decide)).mpr h4) h10)
  refine wp_iconst (v := 0) dX2_takesNumber_15 (by decide) rfl ?_
  refine wp_istore_n (l' := [_, some _, _]) dX2_takesNumber_16 rfl rfl ?_
  refine wp_aload_n dX2_takesNumber_17 rfl rfl ?_
  refine wn_getI dX2_takesNumber_18 fRX2_54 o20 rfl rfl ?_
  rw [e12]
  refine wp_istore_n (l' := [_, _, some _]) dX2_takesNumber_21 rfl rfl ?_
  obtain ⟨m, hm, em⟩ := num_b (tp := tp) (f := f) (e - f) h4 (fun k hk => (hd (f + k) (by omega) (by omega)).2)
  have hl := l2_num (d := d) (s := s) (P := Pv fun y t => y = 1 ∧ CR (cdZ z (num tp f (e - f))) t ∧ OR2 s t) hn hT hQ e12 e13 hfe hen hd ?_ f hfe (Nat.le_refl _)
  · rw [Nat.sub_self] at hl; exact hl
  · refine wp_aload_n dX2_takesNumber_53 rfl rfl ?_
    refine wp_iload_n dX2_takesNumber_54 rfl rfl ?_
    refine wn_callV1n dX2_takesNumber_55 rRX2_135 (rcv_of o20 rfl) (Nat.le_of_ble_eq_true rfl) rfl (Nat.le_of_ble_eq_true rfl) rfl (c2_addPiece h hc (by rw [em]; exact trC_p (Nat.lt_of_lt_of_le hm (Nat.le_trans (Nat.pow_le_pow_right (by decide) h4) (by decide))))) (fun s55 hq55 => ?_)
    have h55 := hq55
    refine wp_iconst (v := 1) dX2_takesNumber_58 (by decide) rfl ?_
    refine wp_iret dX2_takesNumber_59 rfl (by decide) ?_
    exact ⟨_, _, rfl, rfl, rfl, h55⟩
theorem c2_takesNumberN {s : Sn} {f e : Nat} (e12 : s.1 (20, 0, 0) 12 = nI f) (e13 : s.1 (20, 0, 0) 13 = nI e) (hfe : f ≤ e) (he : e ≤ 96) (h4 : ¬ e - f ≤ 4) : Ca (d + 2) MX2_takesNumber [vR 20 0 0] (hN s) (Pd 0 s) := by
  change Wp _ _ 0 [some _, none, none] [] _ _
  refine wp_aload_n dX2_takesNumber_0 rfl rfl ?_
  refine wn_getI dX2_takesNumber_1 fRX2_57 o20 rfl rfl ?_
  rw [e13]
  refine wp_aload_n dX2_takesNumber_4 rfl rfl ?_
  refine wn_getI dX2_takesNumber_5 fRX2_54 o20 rfl rfl ?_
  refine wp_isub dX2_takesNumber_8 rfl ?_
  rw [e12, nI_subn hfe]
  refine wp_iconst (v := 4) dX2_takesNumber_9 (by decide) rfl ?_
  refine wp_icmp_le (t := 15) dX2_takesNumber_10 rfl rfl (fun h10 => absurd ((nI_leI (b := 4) (by omega) (by decide)).mp h10) h4) (fun h10 => ?_)
  refine wp_iconst (v := 0) dX2_takesNumber_13 (by decide) rfl ?_
  refine wp_iret dX2_takesNumber_14 rfl (by decide) ?_
  exact Pd.mk
theorem c2_closesBracket {s : Sn} {z : PZ} {f : Nat} (h : CR z s) (hI : IV f z) (hV : SV (zwf z) (zh z)) (hw : zwt z = false) (hf : f ≤ 96) (hp : 0 < zp z) : Ca (d + 2) MX2_closesBracket [vR 20 0 0] (hN s) (Pv fun y t => y = 1 ∧ CR (hpZ (sz z 0) (zh (sz z 0) - 1) (zp z - 1)) t ∧ OR2 s t) := by
  change Wp _ _ 0 [some _] [] _ _
  obtain ⟨a1, a2, a3, a4, a5, m, a6, a7⟩ := h
  obtain ⟨k, k1, k2, k3⟩ := cl_h hI hp
  have hI1 := hI.1
  have hp8 := hI.2.2.1
  have hnt := stl_nt (wf := zwf z) (ls := 0) (zh z) (zcf z) (zc z) hI.2.2.2.1 (hI.2.2.2.2 hw)
  have k1 : (stl (zwf z) 0 (zh z) (zcf z) (zc z)).2.2 = k + 1 := k1
  refine wp_aload_n dX2_closesBracket_0 rfl rfl ?_
  refine wn_getI dX2_closesBracket_1 fRX2_41 o20 rfl rfl ?_
  rw [a3]
  refine wp_if_ne (t := 9) dX2_closesBracket_4 rfl rfl (fun h4 => ?_) (fun h4 => absurd ((nI_eq (b := 0) (by omega) (by decide)).mp h4) (by omega))
  refine wp_aload_n dX2_closesBracket_9 rfl rfl ?_
  refine wp_iconst (v := 1) dX2_closesBracket_10 (by decide) rfl ?_
  refine wn_callV1n dX2_closesBracket_11 rRX2_79 (rcv_of o20 rfl) (Nat.le_of_ble_eq_true rfl) rfl (Nat.le_of_ble_eq_true rfl) rfl (c2_closeDownTo (ls := 0) (by decide) lx_0 a1 hV hI.2.2.2.1 (hI.2.2.2.2 hw) (by omega)) (fun s11 hq11 => ?_)
  obtain ⟨c11, o11, hF11⟩ := hq11
  rw [k1] at c11
  refine wp_aload_n dX2_closesBracket_14 rfl rfl ?_
  refine wn_callV0d dX2_closesBracket_15 rRX2_157 (rcv_of o20 rfl) (Nat.le_of_ble_eq_true rfl)  (Nat.le_of_ble_eq_true rfl) rfl (c2_pop (h := k) (by omega) c11.2.2.1) ?_
  refine wp_pop dX2_closesBracket_18 rfl rfl ?_
  refine wp_aload_n dX2_closesBracket_19 rfl rfl ?_
  refine wp_dup dX2_closesBracket_20 rfl rfl ?_
  refine wn_getI dX2_closesBracket_21 fRX2_41 o20 rfl rfl ?_
  rw [sI_nk (by decide), o11 8 (by decide) (by decide), a3]
  refine wp_iconst (v := 1) dX2_closesBracket_24 (by decide) rfl ?_
  refine wp_isub dX2_closesBracket_25 rfl ?_
  rw [show nI (zp z) - 1 = nI (zp z - 1) by rw [show nI (zp z) = nI ((zp z - 1) + 1) by rw [show zp z - 1 + 1 = zp z by omega], nI_pred]]
  refine wn_putI dX2_closesBracket_26 fRX2_41 o20 rfl rfl rfl ?_
  refine wp_iconst (v := 1) dX2_closesBracket_29 (by decide) rfl ?_
  refine wp_iret dX2_closesBracket_30 rfl (by decide) ?_
  refine ⟨_, _, rfl, rfl, rfl, ⟨?_, ?_, ?_, ?_, ?_, m, ⟨a6.1, fun q hq => a6.2 q (by have : q ≤ zp z - 1 := hq; omega)⟩, ?_⟩, fun q hq => ?_, (hF11.pt (by decide)).pt (by decide)⟩
  · show CW _ (stl (zwf z) 0 (zh z) (zcf z) (zc z)).1 (stl (zwf z) 0 (zh z) (zcf z) (zc z)).2.1 (zwf z) (zh (sz z 0) - 1)
    rw [show zh (sz z 0) - 1 = k from by show (stl (zwf z) 0 (zh z) (zcf z) (zc z)).2.2 - 1 = k; omega]
    exact ⟨by rw [sI_nk (by decide), sI_nk (by decide)]; exact c11.1, fun q hq => by rw [sI_nr (by decide), sI_nr (by decide)]; exact c11.2.1 q hq, by rw [sI_nk (by decide), sI_row, upd_eq], fun q hq => by rw [sI_nr (by decide), sI_nr (by decide)]; exact c11.2.2.2 q (by omega)⟩
  · rw [sI_nk (by decide), sI_nk (by decide), o11 7 (by decide) (by decide)]; exact a2
  · rw [sI_row, upd_eq]; rfl
  · rw [sI_nk (by decide), sI_nk (by decide), o11 9 (by decide) (by decide), a4]
    show _ = nI (nts (zwf z) (zh (sz z 0) - 1))
    rw [show zh (sz z 0) - 1 = k from by show (stl (zwf z) 0 (zh z) (zcf z) (zc z)).2.2 - 1 = k; omega, ← hnt.1, k1, nts_s, if_neg (hnt.2 k k1)]
    rfl
  · rw [sI_nk (by decide), sI_nk (by decide), o11 11 (by decide) (by decide)]; exact a5
  · rw [sI_nk (by decide), sI_nk (by decide), o11 10 (by decide) (by decide)]; exact a7
  · rcases hq with q1 | q1 | q1 | q1 <;> subst q1 <;> rw [sI_nk (by decide), sI_nk (by decide), o11 _ (by decide) (by decide)]
theorem c2_closesBracketN {s : Sn} (h8 : s.1 (20, 0, 0) 8 = 0) : Ca (d + 2) MX2_closesBracket [vR 20 0 0] (hN s) (Pd 0 s) := by
  change Wp _ _ 0 [some _] [] _ _
  refine wp_aload_n dX2_closesBracket_0 rfl rfl ?_
  refine wn_getI dX2_closesBracket_1 fRX2_41 o20 rfl rfl ?_
  refine wp_if_ne (t := 9) dX2_closesBracket_4 rfl rfl (fun h4 => absurd h8 h4) (fun h4 => ?_)
  refine wp_iconst (v := 0) dX2_closesBracket_7 (by decide) rfl ?_
  refine wp_iret dX2_closesBracket_8 rfl (by decide) ?_
  exact Pd.mk
end
