/-! THE PURE PART, 67: the reference reads a text -/
section
variable {d : Nat}
def z0 (cf wf : Fl) (te : Nat → Bool) : PZ := (cf, 0, wf, 0, 0, 0, tst te 0 false, true)
theorem z0_I {f : Nat} {cf wf : Fl} {te : Nat → Bool} : IV f (z0 cf wf te) := ⟨Nat.zero_le _, rfl, Nat.zero_le _, fun k hk => absurd hk (by show ¬ k + 1 < 0; omega), fun q => absurd q (by show ¬ true = false; decide)⟩
/-- the marks of tests are marks -/
def TB (s : Sn) (te : Nat → Bool) : Prop := ∀ k, k ≤ 8 → s.1 (43, 0, 0) k = bI (te k = true)
theorem c8_takesE {s : Sn} {tp : Fl} {n f : Nat} {en key : Int32} {te : Nat → Bool} (hn : n ≤ 96) (hf : f ≤ n) (ht : s.1 (41, 4, 0) = tp) (h6 : s.1 (40, 0, 0) 6 = nI n) (h12 : s.1 (40, 0, 0) 12 = key) (hT : TK tp n f en (s.1 (40, 0, 0))) (hB : TB s te) : Ca (d + 3) MX8_takesE [vR 40 0 0] (hN s) (Pv fun y t => ZE s (plp key tp n (n + 1) f en (z0 (s.1 (41, 7, 0)) (s.1 (41, 8, 0)) te)) y t) := by
  change Wp _ _ 0 [some _, none, none, none, none] [] _ _
  refine wp_iconst (v := 0) dX8_takesE_0 (by decide) rfl ?_
  refine wp_istore_n (l' := [_, some _, _, _, _]) dX8_takesE_1 rfl rfl ?_
  refine wp_iconst (v := 0) dX8_takesE_2 (by decide) rfl ?_
  refine wp_istore_n (l' := [_, _, some _, _, _]) dX8_takesE_3 rfl rfl ?_
  refine wp_iconst (v := 1) dX8_takesE_4 (by decide) rfl ?_
  refine wp_istore_n (l' := [_, _, _, some _, _]) dX8_takesE_5 rfl rfl ?_
  refine wp_aload_n dX8_takesE_6 rfl rfl ?_
  refine wp_iconst (v := 0) dX8_takesE_7 (by decide) rfl ?_
  refine wn_putI dX8_takesE_8 fRX8_213 o40 rfl rfl rfl ?_
  refine wp_aload_n dX8_takesE_11 rfl rfl ?_
  refine wp_iconst (v := 0) dX8_takesE_12 (by decide) rfl ?_
  refine wn_putI dX8_takesE_13 fRX8_219 o40 rfl rfl rfl ?_
  refine wp_aload_n dX8_takesE_16 rfl rfl ?_
  refine wp_iconst (v := 0) dX8_takesE_17 (by decide) rfl ?_
  refine wn_putI dX8_takesE_18 fRX8_207 o40 rfl rfl rfl ?_
  refine wp_aload_n dX8_takesE_21 rfl rfl ?_
  refine wn_getR dX8_takesE_22 fRX8_38 o40 rfl rfl rfl ?_
  refine wp_iconst (v := 0) dX8_takesE_25 (by decide) rfl ?_
  refine wp_iconst (v := 0) dX8_takesE_26 (by decide) rfl ?_
  refine wn_zast (j := 0) dX8_takesE_27 o43 rfl (nIx (k := 0) rfl (by decide)) (show 0 < 10 by decide) rfl ?_
  rw [show vp_nar .boolean 0 = 0 from rfl]
  have hz : ZI s tp n (z0 (s.1 (41, 7, 0)) (s.1 (41, 8, 0)) te) f en (sI (sI (sI (sI s (40, 0, 0) 16 0) (40, 0, 0) 17 0) (40, 0, 0) 19 0) (43, 0, 0) 0 0) := by
    refine ⟨⟨rfl, rfl, rfl, rfl, rfl, fun k hk => ?_⟩, ⟨hT.1, hT.2.1, hT.2.2.1, hT.2.2.2.1, hT.2.2.2.2⟩, fun q hq => ?_, (((Fr.rf.pt (by decide)).pt (by decide)).pt (by decide)).pt (by decide)⟩
    · rw [sI_row, sI_nr (by decide), sI_nr (by decide), sI_nr (by decide)]
      exact tst_bI (te := te) (k := 0) (b := false) (v := 0) hB rfl k hk
    · rw [sI_nr (by decide), sI_nk hq.2.2.2, sI_nk hq.2.2.1, sI_nk hq.2.1]
  exact l8_E hn ht h6 h12 (n + 1) f en _ _ (by omega) hf hz z0_I _
/-- a text, read: whether it is one; where it ends; its key; its code -/
def txR (tp : Fl) (n : Nat) (cf wf : Fl) (te : Nat → Bool) : Bool × Nat × Nat × PZ :=
  if gT tp n (gF tp n 0) (-1) = 1 then
    (if kyE tp (gF tp n 0) (gN tp n (gF tp n 0)) < 3 then
      ((plp (nI (kyE tp (gF tp n 0) (gN tp n (gF tp n 0)))) tp n (n + 1) (gF tp n (gN tp n (gF tp n 0))) (gE tp n (gF tp n 0) (-1)) (z0 cf wf te)).1,
       (plp (nI (kyE tp (gF tp n 0) (gN tp n (gF tp n 0)))) tp n (n + 1) (gF tp n (gN tp n (gF tp n 0))) (gE tp n (gF tp n 0) (-1)) (z0 cf wf te)).2.1,
       kyE tp (gF tp n 0) (gN tp n (gF tp n 0)),
       (plp (nI (kyE tp (gF tp n 0) (gN tp n (gF tp n 0)))) tp n (n + 1) (gF tp n (gN tp n (gF tp n 0))) (gE tp n (gF tp n 0) (-1)) (z0 cf wf te)).2.2)
    else (false, gF tp n 0, 3, z0 cf wf te))
  else (false, gF tp n 0, 3, z0 cf wf te)
def cpT (f : Fl) (t : Nat) (cf : Fl) (k : Nat) : Fl := fun q => if 133 + 96 * t ≤ q ∧ q < 133 + 96 * t + k then cf (q - (133 + 96 * t)) else f q
theorem cpT_0 {f : Fl} {t : Nat} {cf : Fl} : cpT f t cf 0 = f := by
  funext q
  exact if_neg (by omega)
theorem cpT_s {f : Fl} {t : Nat} {cf : Fl} {k : Nat} : upd (cpT f t cf k) (133 + 96 * t + k) (cf k) = cpT f t cf (k + 1) := by
  funext q
  by_cases e : q = 133 + 96 * t + k
  · rw [e, upd_eq]
    refine ((if_pos (by omega)).trans ?_).symm
    rw [show 133 + 96 * t + k - (133 + 96 * t) = k by omega]
  · rw [upd_ne e]
    show (if 133 + 96 * t ≤ q ∧ q < 133 + 96 * t + k then cf (q - (133 + 96 * t)) else f q) = if 133 + 96 * t ≤ q ∧ q < 133 + 96 * t + (k + 1) then cf (q - (133 + 96 * t)) else f q
    by_cases e2 : 133 + 96 * t ≤ q ∧ q < 133 + 96 * t + k
    · rw [if_pos e2, if_pos (by omega)]
    · rw [if_neg e2, if_neg (by omega)]
def txF (f : Fl) (t e : Nat) (z : PZ) : Fl := upd (cpT (upd (upd f (105 + 2 * t) (1000 * nI e + nI (zc z))) (105 + 2 * t + 1) (nI (za z))) t (zcf z) (zc z)) 8 (nI (t + 1))
def ttX (r : Bool × Nat × Nat × PZ) (c8 : Nat) : Int32 := if r.1 = true then (if c8 = 14 then -1000000003 else nI c8) else -100 - nI r.2.1
def txG (f : Fl) (r : Bool × Nat × Nat × PZ) (c8 : Nat) : Fl := if r.1 = true ∧ ¬ c8 = 14 then txF f c8 r.2.2.1 r.2.2.2 else f
abbrev XX : List Rf := [(40, 0, 0), (41, 0, 0), (41, 7, 0), (41, 8, 0), (43, 0, 0)]
theorem l8_cpT {s : Sn} {f0 : Fl} {c8 e : Nat} {z : PZ} {x1 : Int32} (hc8 : c8 < 14) (hc : zc z ≤ 96) (h8 : f0 8 = nI c8) (e16 : s.1 (40, 0, 0) 16 = nI (zc z)) (ecf : s.1 (41, 7, 0) = zcf z) : ∀ k, k ≤ zc z → ∀ s1 : Sn, s1.1 (41, 0, 0) = cpT (upd (upd f0 (105 + 2 * c8) (1000 * nI e + nI (zc z))) (105 + 2 * c8 + 1) (nI (za z))) c8 (zcf z) k → Fr [(41, 0, 0)] s s1 → Wp (d + 4) MX8_text 117 [some (vR 40 0 0), some (vI x1), some (vI (nI c8)), some (vI (nI k))] [] (hN s1) (Pv fun y t => y = nI c8 ∧ t.1 (41, 0, 0) = txF f0 c8 e z ∧ Fr [(41, 0, 0)] s t) := by
  refine ind_up (fun k hk ih => ?_)
  intro s1 e1 hF
  have q16 : s1.1 (40, 0, 0) 16 = nI (zc z) := by rw [hF.1 _ (by decide)]; exact e16
  refine wp_iload_n dX8_text_117 rfl rfl ?_
  refine wp_aload_n dX8_text_118 rfl rfl ?_
  refine wn_getI dX8_text_119 fRX8_213 o40 rfl rfl ?_
  rw [q16]
  refine wp_icmp_ge (t := 152) dX8_text_122 rfl rfl (fun h122 => ?_) (fun h122 => ?_)
  · have hk2 : k = zc z := by have := (nI_leI (by omega) (by omega)).mp h122; omega
    subst hk2
    have e8 : s1.1 (41, 0, 0) 8 = nI c8 := by rw [e1]; refine (if_neg (by omega)).trans ?_; rw [upd_ne (by omega), upd_ne (by omega)]; exact h8
    refine wp_aload_n dX8_text_152 rfl rfl ?_
    refine wn_getR dX8_text_153 fRX8_9 o40 rfl rfl rfl ?_
    refine wp_bipush (v := 8) dX8_text_156 (by decide) rfl ?_
    refine wp_dup2 dX8_text_158 rfl rfl rfl ?_
    refine wn_iald (j := 8) dX8_text_159 (o41 0 rfl) rfl ⟨by decide, by decide⟩ (Nat.le_of_ble_eq_true rfl) rfl ?_
    rw [e8]
    refine wp_iconst (v := 1) dX8_text_160 (by decide) rfl ?_
    refine wp_iadd dX8_text_161 rfl ?_
    rw [nI_1]
    refine wn_iast (j := 8) dX8_text_162 (o41 0 rfl) rfl ⟨by decide, by decide⟩ (Nat.le_of_ble_eq_true rfl) rfl ?_
    refine wp_iload_n dX8_text_163 rfl rfl ?_
    refine wp_iret dX8_text_164 rfl rfl ?_
    refine ⟨_, _, rfl, rfl, rfl, ?_, hF.pt (by decide)⟩
    rw [sI_row, e1]
    rfl
  · have hl : k < zc z := by have := mt (nI_leI (by omega) (by omega)).mpr h122; omega
    refine wp_aload_n dX8_text_125 rfl rfl ?_
    refine wn_getR dX8_text_126 fRX8_9 o40 rfl rfl rfl ?_
    refine wp_sipush (v := 133) dX8_text_129 (by decide) rfl ?_
    refine wp_bipush (v := 96) dX8_text_132 (by decide) rfl ?_
    refine wp_iload_n dX8_text_134 rfl rfl ?_
    refine wp_imul dX8_text_135 rfl ?_
    refine wp_iadd dX8_text_136 rfl ?_
    refine wp_iload_n dX8_text_137 rfl rfl ?_
    refine wp_iadd dX8_text_138 rfl ?_
    refine wp_aload_n dX8_text_139 rfl rfl ?_
    refine wn_getR dX8_text_140 fRX8_32 o40 rfl rfl rfl ?_
    refine wp_iload_n dX8_text_143 rfl rfl ?_
    refine wn_iald dX8_text_144 (o41 7 rfl) rfl (nIx rfl (by omega)) (show k < 96 by omega) rfl ?_
    rw [hF.1 (41, 7, 0) (by decide), ecf]
    refine wn_iast dX8_text_145 (o41 0 rfl) rfl (nIx ix_c (by omega)) (by show _ < 1477; omega) rfl ?_
    refine wp_iinc (l' := [_, _, _, some _]) (v := 1) dX8_text_146 rfl (by decide) rfl rfl ?_
    refine wp_goto (t := 117) dX8_text_149 rfl ?_
    rw [nI_1]
    exact ih hl _ (by rw [sI_row, e1, cpT_s]) (hF.pt (by decide))
theorem l8_txS {s : Sn} {f0 : Fl} {c8 e : Nat} {z : PZ} {c2 c3 : Option Av} (hf : s.1 (41, 0, 0) = f0) (hc8 : c8 ≤ 14) (hc : zc z ≤ 96) (h8 : f0 8 = nI c8) (hz : ZR z s) (h12 : s.1 (40, 0, 0) 12 = nI e) : Wp (d + 4) MX8_text 34 [some (vR 40 0 0), some (vI 1), c2, c3] [] (hN s) (Pv fun y t => y = (if c8 = 14 then -1000000003 else nI c8) ∧ t.1 (41, 0, 0) = (if c8 = 14 then f0 else txF f0 c8 e z) ∧ t.1 (40, 0, 0) = upd (s.1 (40, 0, 0)) 6 0 ∧ Fr [(40, 0, 0), (41, 0, 0)] s t) := by
  obtain ⟨a1, a2, a3, a4, a5, a6⟩ := hz
  refine wp_aload_n dX8_text_34 rfl rfl ?_
  refine wp_iconst (v := 0) dX8_text_35 (by decide) rfl ?_
  refine wn_putI dX8_text_36 fRX8_176 o40 rfl rfl rfl ?_
  refine wp_iload_n dX8_text_39 rfl rfl ?_
  refine wp_if_ne (t := 51) dX8_text_40 rfl rfl (fun h40 => ?_) (fun h40 => absurd h40 (by decide))
  refine wp_aload_n dX8_text_51 rfl rfl ?_
  refine wn_getR dX8_text_52 fRX8_9 o40 rfl rfl rfl ?_
  refine wp_bipush (v := 8) dX8_text_55 (by decide) rfl ?_
  refine wn_iald (j := 8) dX8_text_57 (o41 0 rfl) rfl ⟨by decide, by decide⟩ (Nat.le_of_ble_eq_true rfl) rfl ?_
  rw [sI_nr (by decide), hf, h8]
  refine wp_bipush (v := 14) dX8_text_58 (by decide) rfl ?_
  refine wp_icmp_ne (t := 66) dX8_text_60 rfl rfl (fun h60 => ?_) (fun h60 => ?_)
  · refine wp_aload_n dX8_text_66 rfl rfl ?_
    refine wn_getR dX8_text_67 fRX8_9 o40 rfl rfl rfl ?_
    refine wp_bipush (v := 8) dX8_text_70 (by decide) rfl ?_
    refine wn_iald (j := 8) dX8_text_72 (o41 0 rfl) rfl ⟨by decide, by decide⟩ (Nat.le_of_ble_eq_true rfl) rfl ?_
    rw [sI_nr (by decide), hf, h8]
    refine wp_istore_n (l' := [_, _, some _, _]) dX8_text_73 rfl rfl ?_
    refine wp_aload_n dX8_text_74 rfl rfl ?_
    refine wn_getR dX8_text_75 fRX8_9 o40 rfl rfl rfl ?_
    refine wp_bipush (v := 105) dX8_text_78 (by decide) rfl ?_
    refine wp_iconst (v := 2) dX8_text_80 (by decide) rfl ?_
    refine wp_iload_n dX8_text_81 rfl rfl ?_
    refine wp_imul dX8_text_82 rfl ?_
    refine wp_iadd dX8_text_83 rfl ?_
    refine wp_sipush (v := 1000) dX8_text_84 (by decide) rfl ?_
    refine wp_aload_n dX8_text_87 rfl rfl ?_
    refine wn_getI dX8_text_88 fRX8_201 o40 rfl rfl ?_
    rw [sI_nk (by decide), h12]
    refine wp_imul dX8_text_91 rfl ?_
    refine wp_aload_n dX8_text_92 rfl rfl ?_
    refine wn_getI dX8_text_93 fRX8_213 o40 rfl rfl ?_
    rw [sI_nk (by decide), a3]
    refine wp_iadd dX8_text_96 rfl ?_
    refine wn_iast dX8_text_97 (o41 0 rfl) rfl (nIx ix_t (by omega)) (by show _ < 1477; omega) rfl ?_
    refine wp_aload_n dX8_text_98 rfl rfl ?_
    refine wn_getR dX8_text_99 fRX8_9 o40 rfl rfl rfl ?_
    refine wp_bipush (v := 105) dX8_text_102 (by decide) rfl ?_
    refine wp_iconst (v := 2) dX8_text_104 (by decide) rfl ?_
    refine wp_iload_n dX8_text_105 rfl rfl ?_
    refine wp_imul dX8_text_106 rfl ?_
    refine wp_iadd dX8_text_107 rfl ?_
    refine wp_iconst (v := 1) dX8_text_108 (by decide) rfl ?_
    refine wp_iadd dX8_text_109 rfl ?_
    refine wp_aload_n dX8_text_110 rfl rfl ?_
    refine wn_getI dX8_text_111 fRX8_219 o40 rfl rfl ?_
    rw [sI_nr (by decide), sI_nk (by decide), a5]
    refine wn_iast dX8_text_114 (o41 0 rfl) rfl (nIx ix_t1 (by omega)) (by show _ < 1477; omega) rfl ?_
    refine wp_iconst (v := 0) dX8_text_115 (by decide) rfl ?_
    refine wp_istore_n (l' := [_, _, _, some _]) dX8_text_116 rfl rfl ?_
    have hlt : c8 < 14 := by have : ¬ c8 = 14 := fun q => h60 (by rw [q]; rfl); omega
    have eb : (sI (sI (sI s (40, 0, 0) 6 0) (41, 0, 0) (105 + 2 * c8) (1000 * nI e + nI (zc z))) (41, 0, 0) (105 + 2 * c8 + 1) (nI (za z))).1 (41, 0, 0) = (upd (upd f0 (105 + 2 * c8) (1000 * nI e + nI (zc z))) (105 + 2 * c8 + 1) (nI (za z))) := by rw [sI_row, sI_row, sI_nr (by decide), hf]
    refine (l8_cpT (d := d) (s := sI (sI (sI s (40, 0, 0) 6 0) (41, 0, 0) (105 + 2 * c8) (1000 * nI e + nI (zc z))) (41, 0, 0) (105 + 2 * c8 + 1) (nI (za z))) (f0 := f0) (e := e) (z := z) hlt hc h8 ?_ ?_ 0 (Nat.zero_le _) _ (by rw [eb, cpT_0]) Fr.rf).conseq ?_
    · rw [sI_nr (by decide), sI_nr (by decide), sI_nk (by decide)]; exact a3
    · rw [sI_nr (by decide), sI_nr (by decide), sI_nr (by decide)]; exact a1
    · rintro v σ ⟨y, t, rfl, rfl, q1, q2, q3⟩
      have hne : ¬ c8 = 14 := by omega
      refine ⟨y, t, rfl, rfl, ?_, ?_, ?_, (((Fr.rf.pt (by decide)).pt (by decide)).pt (by decide)).tr (q3.wd (by decide))⟩
      · rw [if_neg hne]; exact q1
      · rw [if_neg hne]; exact q2
      · rw [q3.1 _ (by decide), sI_nr (by decide), sI_nr (by decide), sI_row]
  · refine wp_ldc dX8_text_63 kRX8_84 rfl ?_
    refine wp_iret dX8_text_65 rfl rfl ?_
    have h14 : c8 = 14 := (nI_eq (b := 14) (by omega) (by decide)).mp h60
    refine ⟨_, _, rfl, rfl, ?_, ?_, by rw [sI_row], Fr.rf.pt (by decide)⟩
    · rw [if_pos h14]
    · rw [if_pos h14, sI_nr (by decide)]; exact hf
theorem l8_txN {s : Sn} {f : Nat} {c2 c3 : Option Av} (h8 : s.1 (40, 0, 0) 8 = nI f) : Wp (d + 4) MX8_text 34 [some (vR 40 0 0), some (vI 0), c2, c3] [] (hN s) (Pd (-100 - nI f) (sI s (40, 0, 0) 6 0)) := by
  refine wp_aload_n dX8_text_34 rfl rfl ?_
  refine wp_iconst (v := 0) dX8_text_35 (by decide) rfl ?_
  refine wn_putI dX8_text_36 fRX8_176 o40 rfl rfl rfl ?_
  refine wp_iload_n dX8_text_39 rfl rfl ?_
  refine wp_if_ne (t := 51) dX8_text_40 rfl rfl (fun h40 => absurd rfl h40) (fun h40 => ?_)
  refine wp_bipush (v := (-100)) dX8_text_43 (by decide) rfl ?_
  refine wp_aload_n dX8_text_45 rfl rfl ?_
  refine wn_getI dX8_text_46 fRX8_183 o40 rfl rfl ?_
  rw [sI_nk (by decide), h8]
  refine wp_isub dX8_text_49 rfl ?_
  refine wp_iret dX8_text_50 rfl rfl ?_
  exact Pd.mk
end
