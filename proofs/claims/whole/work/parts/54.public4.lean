/-! THE PURE PART, 37: the public methods word, unword -/
section
variable {d i : Nat}
def wdA (n : Nat) (x : Int32) : Int32 := if 0 ≤ x ∧ x ≤ 25 then (if n = 12 then -1000000003 else nI (n + 1)) else -1000000001
def wdF (f : Fl) (n : Nat) (x : Int32) : Fl := if (0 ≤ x ∧ x ≤ 25) ∧ n ≠ 12 then ltf f n x else f
theorem wd_no {f : Fl} {n : Nat} {x : Int32} (h : ¬ (0 ≤ x ∧ x ≤ 25)) : wdA n x = -1000000001 ∧ wdF f n x = f := ⟨if_neg h, if_neg (fun z => h z.1)⟩
theorem wd_full {f : Fl} {x : Int32} (h : 0 ≤ x ∧ x ≤ 25) : wdA 12 x = -1000000003 ∧ wdF f 12 x = f := ⟨(if_pos h).trans (if_pos rfl), if_neg (fun z => z.2 rfl)⟩
theorem wd_yes {f : Fl} {n : Nat} {x : Int32} (h : 0 ≤ x ∧ x ≤ 25) (hn : n < 12) : wdA n x = nI (n + 1) ∧ wdF f n x = ltf f n x := ⟨(if_pos h).trans (if_neg (by omega)), if_pos ⟨h, by omega⟩⟩
theorem RV.u {s : Sn} {f : Fl} {c : Nat} {z : Int32} (h : RV s i f c) : RV (sI s (11, i, 0) 7 z) i (upd f 7 z) c := by
  obtain ⟨hR, h13, h1, hc⟩ := h
  exact ⟨RC.pt (q := ((11, i, 0), 7)) hR (show rc i 7 = _ from rfl) (by decide), by rw [sI_nk (by decide), mny_lo (by decide) (by decide)]; exact h13, by rw [upd_ne (by decide)]; exact h1, hc⟩
theorem ltS_FQ {s : Sn} {n : Nat} {x : Int32} : FQ (XT i) s (ltS s i n x) := by
  have x1 : XT i (17, i, 0) := ⟨rfl, Or.inr (Or.inl rfl)⟩
  have x2 : XT i (11, i, 0) := ⟨rfl, Or.inl rfl⟩
  exact (FQ.rf.pt x1).pt x2
theorem c8_word {s : Sn} {n : Nat} {x : Int32} (hn : n ≤ 12) (h77 : s.1 (41, 0, 0) 7 = nI n) : Ca (d + 1) MX8_word [vR 40 0 0, vI x] (hN s) (Pv fun y t => y = wdA n x ∧ t.1 (41, 0, 0) = wdF (s.1 (41, 0, 0)) n x ∧ Fr [(41, 0, 0)] s t) := by
  change Wp _ _ 0 [some _, some _] [] _ _
  refine wp_iload_n dX8_word_0 rfl rfl ?_
  refine wp_iconst (v := 0) dX8_word_1 (by decide) rfl ?_
  refine wp_bipush (v := 25) dX8_word_2 (by decide) rfl ?_
  refine wn_callS3d dX8_word_4 rRX8_75 (Nat.le_of_ble_eq_true rfl) rfl rfl rfl (Nat.le_of_ble_eq_true rfl) rfl (c8_in) ?_
  refine wp_if_ne_b (t := 13) dX8_word_7 rfl rfl (fun h7 => ?_) (fun h7 => ?_)
  · refine wp_aload_n dX8_word_13 rfl rfl ?_
    refine wn_getR dX8_word_14 fRX8_9 o40 rfl rfl rfl ?_
    refine wp_bipush (v := 7) dX8_word_17 (by decide) rfl ?_
    refine wn_iald (j := 7) dX8_word_19 (o41 0 rfl) rfl ⟨by decide, by decide⟩ (Nat.le_of_ble_eq_true rfl) rfl ?_
    rw [h77]
    refine wp_bipush (v := 12) dX8_word_20 (by decide) rfl ?_
    refine wp_icmp_ne (t := 28) dX8_word_22 rfl rfl (fun h22 => ?_) (fun h22 => ?_)
    · have hn12 : n < 12 := by
        have : n ≠ 12 := fun z => h22 (by rw [z]; rfl)
        omega
      refine wp_aload_n dX8_word_28 rfl rfl ?_
      refine wn_getR dX8_word_29 fRX8_9 o40 rfl rfl rfl ?_
      refine wp_bipush (v := 9) dX8_word_32 (by decide) rfl ?_
      refine wp_aload_n dX8_word_34 rfl rfl ?_
      refine wn_getR dX8_word_35 fRX8_9 o40 rfl rfl rfl ?_
      refine wp_bipush (v := 7) dX8_word_38 (by decide) rfl ?_
      refine wn_iald (j := 7) dX8_word_40 (o41 0 rfl) rfl ⟨by decide, by decide⟩ (Nat.le_of_ble_eq_true rfl) rfl ?_
      rw [h77]
      refine wp_iadd dX8_word_41 rfl ?_
      refine wp_iload_n dX8_word_42 rfl rfl ?_
      refine wn_iast dX8_word_43 (o41 0 rfl) rfl (nIx ix_9 (by omega)) (by show _ < 1477; omega) rfl ?_
      refine wp_aload_n dX8_word_44 rfl rfl ?_
      refine wn_getR dX8_word_45 fRX8_9 o40 rfl rfl rfl ?_
      refine wp_bipush (v := 7) dX8_word_48 (by decide) rfl ?_
      refine wp_dup2 dX8_word_50 rfl rfl rfl ?_
      refine wn_iald (j := 7) dX8_word_51 (o41 0 rfl) rfl ⟨by decide, by decide⟩ (Nat.le_of_ble_eq_true rfl) rfl ?_
      rw [sI_nk (show (7 : Nat) ≠ 9 + n by omega), h77]
      refine wp_iconst (v := 1) dX8_word_52 (by decide) rfl ?_
      refine wp_iadd dX8_word_53 rfl ?_
      rw [nI_1]
      refine wn_iast (j := 7) dX8_word_54 (o41 0 rfl) rfl ⟨by decide, by decide⟩ (Nat.le_of_ble_eq_true rfl) rfl ?_
      refine wp_aload_n dX8_word_55 rfl rfl ?_
      refine wn_getR dX8_word_56 fRX8_9 o40 rfl rfl rfl ?_
      refine wp_bipush (v := 7) dX8_word_59 (by decide) rfl ?_
      refine wn_iald (j := 7) dX8_word_61 (o41 0 rfl) rfl ⟨by decide, by decide⟩ (Nat.le_of_ble_eq_true rfl) rfl ?_
      rw [sI_eq]
      refine wp_iret dX8_word_62 rfl rfl ?_
      obtain ⟨e1, e2⟩ := wd_yes (f := (s.1 (41, 0, 0))) h7 hn12
      refine ⟨_, _, rfl, rfl, e1.symm, ?_, (Fr.rf.pt (by decide)).pt (by decide)⟩
      rw [e2, sI_row, sI_row]
      rfl
    · refine wp_ldc dX8_word_25 kRX8_84 rfl ?_
      refine wp_iret dX8_word_27 rfl rfl ?_
      have hn12 : n = 12 := (nI_eq (b := 12) (by omega) (by omega)).mp h22
      subst hn12
      obtain ⟨e1, e2⟩ := wd_full (f := (s.1 (41, 0, 0))) h7
      exact ⟨_, _, rfl, rfl, e1.symm, e2.symm, Fr.rf⟩
  · refine wp_ldc dX8_word_10 kRX8_83 rfl ?_
    refine wp_iret dX8_word_12 rfl rfl ?_
    obtain ⟨e1, e2⟩ := wd_no (f := (s.1 (41, 0, 0))) (n := n) h7
    exact ⟨_, _, rfl, rfl, e1.symm, e2.symm, Fr.rf⟩
theorem c7_word {s : Sn} {f : Fl} {c n : Nat} {x : Int32} (hV : RV s 0 f c) (hn : n ≤ 12) (h77 : f 7 = nI n) : Ca (d + 2) MX7_word [vR 10 0 0, vI x] (hN s) (Pv fun y t => y = wdA n x ∧ RV t 0 (wdF f n x) c ∧ FQ (XT 0) s t) := by
  change Wp _ _ 0 [some _, some _] [] _ _
  refine wp_iload_n dX7_word_0 rfl rfl ?_
  refine wn_callS1d dX7_word_1 rRX7_62 (Nat.le_of_ble_eq_true rfl) rfl (Nat.le_of_ble_eq_true rfl) rfl (c7_isLetter) ?_
  refine wp_if_ne_b (t := 10) dX7_word_4 rfl rfl (fun h4 => ?_) (fun h4 => ?_)
  · by_cases hn12 : n = 12
    · subst hn12
      obtain ⟨e1, e2⟩ := wd_full (f := f) h4
      refine wp_aload_n dX7_word_10 rfl rfl ?_
      refine wn_getR dX7_word_11 fRX7_10 o10 rfl rfl rfl ?_
      refine wp_iload_n dX7_word_14 rfl rfl ?_
      refine wn_callV1d dX7_word_15 rRX7_143 (rcv_of (o11 (by decide)) rfl) (Nat.le_of_ble_eq_true rfl) rfl (Nat.le_of_ble_eq_true rfl) rfl (c3_addLetterNo (by decide) hV.1 h77) ?_
      refine wp_if_eq (t := 31) dX7_word_18 rfl rfl (fun h18 => ?_) (fun h18 => absurd rfl h18)
      refine wp_ldc dX7_word_31 kRX7_76 rfl ?_
      refine wp_iret dX7_word_33 rfl rfl ?_
      exact ⟨_, _, rfl, rfl, e1.symm, by rw [e2]; exact hV, FQ.rf⟩
    · have hc : n < 12 := by omega
      obtain ⟨e1, e2⟩ := wd_yes (f := f) h4 hc
      refine wp_aload_n dX7_word_10 rfl rfl ?_
      refine wn_getR dX7_word_11 fRX7_10 o10 rfl rfl rfl ?_
      refine wp_iload_n dX7_word_14 rfl rfl ?_
      refine wn_callV1d dX7_word_15 rRX7_143 (rcv_of (o11 (by decide)) rfl) (Nat.le_of_ble_eq_true rfl) rfl (Nat.le_of_ble_eq_true rfl) rfl (c3_addLetter (by decide) hc hV.1 h77) ?_
      refine wp_if_eq (t := 31) dX7_word_18 rfl rfl (fun h18 => absurd h18 (by decide)) (fun h18 => ?_)
      refine wp_aload_n dX7_word_21 rfl rfl ?_
      refine wn_getR dX7_word_22 fRX7_10 o10 rfl rfl rfl ?_
      refine wn_getI dX7_word_25 fRX7_146 (o11 (by decide)) rfl rfl ?_
      rw [show (ltS s 0 n x).1 (11, 0, 0) 7 = nI (n + 1) from sI_eq]
      refine wp_goto (t := 33) dX7_word_28 rfl ?_
      refine wp_iret dX7_word_33 rfl rfl ?_
      exact ⟨_, _, rfl, rfl, e1.symm, by rw [e2]; exact ltS_RV hc hV, ltS_FQ⟩
  · refine wp_ldc dX7_word_7 kRX7_68 rfl ?_
    refine wp_iret dX7_word_9 rfl rfl ?_
    obtain ⟨e1, e2⟩ := wd_no (f := f) (n := n) h4
    exact ⟨_, _, rfl, rfl, e1.symm, by rw [e2]; exact hV, FQ.rf⟩
theorem c8_unword {s : Sn} : Ca (d + 1) MX8_unword [vR 40 0 0] (hN s) (Pd (s.1 (41, 0, 0) 7) (sI s (41, 0, 0) 7 0)) := by
  change Wp _ _ 0 [some _] [] _ _
  refine wp_aload_n dX8_unword_0 rfl rfl ?_
  refine wp_bipush (v := 7) dX8_unword_1 (by decide) rfl ?_
  refine wp_iconst (v := 0) dX8_unword_3 (by decide) rfl ?_
  refine wn_callV2d dX8_unword_4 rRX8_121 (rcv_of o40 rfl) (Nat.le_of_ble_eq_true rfl) rfl rfl (Nat.le_of_ble_eq_true rfl) rfl (c8_becomes (k := 7) (by decide)) ?_
  refine wp_iret dX8_unword_7 rfl rfl ?_
  exact Pd.mk
theorem c7_unword {s : Sn} {f : Fl} {c : Nat} (hV : RV s 0 f c) : Ca d MX7_unword [vR 10 0 0] (hN s) (Pd (f 7) (sI s (11, 0, 0) 7 0)) := by
  change Wp _ _ 0 [some _, none] [] _ _
  refine wp_aload_n dX7_unword_0 rfl rfl ?_
  refine wn_getR dX7_unword_1 fRX7_10 o10 rfl rfl rfl ?_
  refine wn_getI dX7_unword_4 fRX7_146 (o11 (by decide)) rfl rfl ?_
  rw [show s.1 (11, 0, 0) 7 = f 7 from hV.1.sc 7 (by decide)]
  refine wp_istore_n (l' := [_, some _]) dX7_unword_7 rfl rfl ?_
  refine wp_aload_n dX7_unword_8 rfl rfl ?_
  refine wn_getR dX7_unword_9 fRX7_10 o10 rfl rfl rfl ?_
  refine wp_iconst (v := 0) dX7_unword_12 (by decide) rfl ?_
  refine wn_putI dX7_unword_13 fRX7_146 (o11 (by decide)) rfl rfl rfl ?_
  refine wp_iload_n dX7_unword_16 rfl rfl ?_
  refine wp_iret dX7_unword_17 rfl rfl ?_
  exact Pd.mk
end
