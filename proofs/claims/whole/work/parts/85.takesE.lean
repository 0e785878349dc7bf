/-! THE PURE PART, 66: the reference takes an E -/
section
variable {d : Nat}
/-- what is left behind -/
def ZE (s0 : Sn) (r : Bool × Nat × PZ) (y : Int32) (t : Sn) : Prop := y = bI (r.1 = true) ∧ ZR r.2.2 t ∧ t.1 (40, 0, 0) 8 = nI r.2.1 ∧ OT s0 t
theorem gT_n {tp : Fl} {n : Nat} {en : Int32} : gT tp n n en = 0 := if_pos rfl
theorem gT_p {tp : Fl} {n f : Nat} {en : Int32} (h : f < n) : ¬ gT tp n f en = 0 := by
  unfold gT
  rw [if_neg (by omega)]
  split
  · split <;> decide
  · split
    · split <;> decide
    · decide
theorem c8_settle0 {d : Nat} {s0 s : Sn} {tp : Fl} {n f : Nat} {en ls : Int32} {z : PZ} (hl : zc z + zh z ≤ 96) (h : ZJ s0 tp n z f en s) : Ca (d + 1) MX8_settle [vR 40 0 0, vI ls] (hN s) (Pn fun t => ZJ s0 tp n (sz z ls) f en t ∧ t.1 (40, 0, 0) 8 = s.1 (40, 0, 0) 8) := by
  obtain ⟨⟨a1, a2, a3, a4, a5, a6⟩, ⟨b1, b2⟩, c1, c2⟩ := h
  refine (c8_settle (ls := ls) a2 a1 a3 a4 hl).conseq ?_
  rintro v σ ⟨t, rfl, rfl, q1, q2, q3⟩
  refine ⟨t, rfl, rfl, ⟨⟨q1, by rw [q3.1 _ (by decide)]; exact a2, by rw [q2, SE_16]; rfl, by rw [q2, SE_19]; rfl, by rw [q2, SE_o (by decide) (by decide)]; exact a5, fun k hk => by rw [q3.1 _ (by decide)]; exact a6 k hk⟩, ⟨by rw [q2, SE_o (by decide) (by decide)]; exact b1, by rw [q2, SE_o (by decide) (by decide)]; exact b2⟩, fun q hq => by rw [q2, SE_o hq.2.1 hq.2.2.2]; exact c1 q hq, c2.tr (q3.wd (by decide))⟩, by rw [q2, SE_o (by decide) (by decide)]⟩
theorem l8_E {s0 : Sn} {tp : Fl} {n : Nat} {key : Int32} (hn : n ≤ 96) (ht : s0.1 (41, 4, 0) = tp) (h6 : s0.1 (40, 0, 0) 6 = nI n) (h12 : s0.1 (40, 0, 0) 12 = key) : ∀ (m f : Nat) (en : Int32) (z : PZ) (s1 : Sn), n + 1 ≤ f + m → f ≤ n → ZI s0 tp n z f en s1 → IV f z → ∀ c4, Wp (d + 3) MX8_takesE 28 [some (vR 40 0 0), some (vI (nI (zp z))), some (vI (nI (nts (zwf z) (zh z)))), some (vI (bI (zwt z = true))), c4] [] (hN s1) (Pv fun y t => ZE s0 (plp key tp n m f en z) y t) := by
  intro m
  induction m with
  | zero => intro f en z s1 hm hf; omega
  | succ m ih =>
    intro f en z s1 hm hf h hI c4
    have hgn := gN_le (tp := tp) hf
    have hgf := gF_le (tp := tp) (n := n) (k := gN tp n f) hgn.2.1
    obtain ⟨a1, a2, a3, a4, a5, a6⟩ := h.1
    have hI1 := hI.1
    have hp8 := hI.2.2.1
    obtain ⟨T, eT⟩ : ∃ T, gT tp n f en = T := ⟨_, rfl⟩
    have e9 : s1.1 (40, 0, 0) 9 = T := h.2.1.2.2.1.trans eT
    have hb : nts (zwf z) (zh z) ≤ zh z := ctr_le _ _
    by_cases hw : zwt z = true
    · have hcond : ¬ (zwt z = false ∧ gT tp n f en = 0) := fun q => absurd (hw.symm.trans q.1) (by decide)
      obtain ⟨v, ev⟩ : ∃ v, s1.1 (40, 0, 0) 10 = v := ⟨_, rfl⟩
      have hv : T = 0 ∨ gV tp n f 0 = v := by
        by_cases e : f < n
        · exact Or.inr ((h.2.1.2.2.2.1 e).symm.trans ev)
        · have e2 : f = n := by omega
          subst e2
          exact Or.inl (eT.symm.trans gT_n)
      have hpst : ∀ l, pst key T (gV tp n f 0) l z = pst key T v l z := fun l => by
        rcases hv with q | q
        · rw [q, pst_D hw (fun z => absurd z.1 (by decide)) (fun z => absurd z.1 (by decide)) (fun z => z.elim (fun z => absurd z (by decide)) (fun z => absurd z.1 (by decide))), pst_D hw (fun z => absurd z.1 (by decide)) (fun z => absurd z.1 (by decide)) (fun z => z.elim (fun z => absurd z (by decide)) (fun z => absurd z.1 (by decide)))]
        · rw [q]
      refine wp_iload_n dX8_takesE_28 rfl rfl ?_
      refine wp_if_ne_b (t := 39) dX8_takesE_29 rfl rfl (fun h29 => ?_) (fun h29 => absurd hw h29)
      refine wp_iload_n dX8_takesE_39 rfl rfl ?_
      refine wp_if_eq_b (t := 180) dX8_takesE_40 rfl rfl (fun h40 => absurd hw h40) (fun h40 => ?_)
      refine wp_aload_n dX8_takesE_43 rfl rfl ?_
      refine wn_getI dX8_takesE_44 fRX8_189 o40 rfl rfl ?_
      rw [e9]
      refine wp_iconst (v := 3) dX8_takesE_47 (by decide) rfl ?_
      refine wp_icmp_ne (t := 97) dX8_takesE_48 rfl rfl (fun h48 => ?_) (fun h48 => ?_)
      · refine wp_aload_n dX8_takesE_97 rfl rfl ?_
        refine wn_getI dX8_takesE_98 fRX8_189 o40 rfl rfl ?_
        rw [e9]
        refine wp_iconst (v := 3) dX8_takesE_101 (by decide) rfl ?_
        refine wp_icmp_ne (t := 158) dX8_takesE_102 rfl rfl (fun h102 => ?_) (fun h102 => absurd h102 h48)
        by_cases hq : ptQ key T v (gN tp n f - f)
        · have hIp := hI.pt (x := ptC key T v)
          have hfn : f < n := Nat.lt_of_le_of_ne hf (fun q => by subst q; rw [gT_n] at eT; subst eT; exact hq.elim (fun z => absurd z (by decide)) (fun z => absurd z.1 (by decide)))
          refine wp_aload_n dX8_takesE_158 rfl rfl ?_
          refine wn_callV0i dX8_takesE_159 rRX8_225 (rcv_of o40 rfl) (Nat.le_of_ble_eq_true rfl)  (Nat.le_of_ble_eq_true rfl) rfl (c8_takesPart (x := ptC key T v) hn hf ht h6 h12 h eT ev rfl hq (by omega)) (fun x159 s159 hq159 => ?_)
          obtain ⟨e159, h159⟩ := hq159
          subst e159
          refine wp_if_eq (t := 170) dX8_takesE_162 rfl rfl (fun h162 => absurd h162 (by decide)) (fun h162 => ?_)
          refine wp_iconst (v := 0) dX8_takesE_165 (by decide) rfl ?_
          refine wp_istore_n (l' := [_, _, _, some _, _]) dX8_takesE_166 rfl rfl ?_
          refine wp_goto (t := 172) dX8_takesE_167 rfl ?_
          refine wp_aload_n dX8_takesE_172 rfl rfl ?_
          refine wn_callV0d dX8_takesE_173 rRX8_229 (rcv_of o40 rfl) (Nat.le_of_ble_eq_true rfl)  (Nat.le_of_ble_eq_true rfl) rfl (c8_notsOpen (wf := zwf (ptZ z (ptC key T v))) (h := zh (ptZ z (ptC key T v))) h159.1.2.1 h159.1.2.2.2.1 (by have := hIp.1; omega)) ?_
          refine wp_istore_n (l' := [_, _, some _, _, _]) dX8_takesE_176 rfl rfl ?_
          refine wp_goto (t := 28) dX8_takesE_177 rfl ?_
          rw [plp_s hcond (z' := ptZ z (ptC key T v)) (by rw [eT, hpst]; exact pst_C hw (fun q => h48 q.1) (fun q => h102 q.1) hq)]
          exact ih _ _ _ _ (by omega) hgf.2 h159 (hIp.le (by omega)) _
        · refine wp_aload_n dX8_takesE_158 rfl rfl ?_
          refine wn_callV0d dX8_takesE_159 rRX8_225 (rcv_of o40 rfl) (Nat.le_of_ble_eq_true rfl)  (Nat.le_of_ble_eq_true rfl) rfl (c8_takesPartN hn ((h.2.2.2.1 _ (by decide)).trans ht) ((h.2.2.1 6 (by decide)).trans h6) ((h.2.2.1 12 (by decide)).trans h12) h.2.1 hf eT ev hq) ?_
          refine wp_if_eq (t := 170) dX8_takesE_162 rfl rfl (fun h162 => ?_) (fun h162 => absurd rfl h162)
          refine wp_iconst (v := 0) dX8_takesE_170 (by decide) rfl ?_
          refine wp_iret dX8_takesE_171 rfl (by decide) ?_
          refine ⟨_, _, rfl, rfl, ?_⟩
          rw [plp_n hcond (by rw [eT, hpst]; exact pst_D hw (fun q => h48 q.1) (fun q => h102 q.1) hq)]
          exact ⟨rfl, h.1, h.2.1.1, h.2.2⟩
      · refine wp_aload_n dX8_takesE_51 rfl rfl ?_
        refine wn_getI dX8_takesE_52 fRX8_195 o40 rfl rfl ?_
        rw [ev]
        refine wp_bipush (v := 33) dX8_takesE_55 (by decide) rfl ?_
        refine wp_icmp_ne (t := 97) dX8_takesE_57 rfl rfl (fun h57 => ?_) (fun h57 => ?_)
        · refine wp_aload_n dX8_takesE_97 rfl rfl ?_
          refine wn_getI dX8_takesE_98 fRX8_189 o40 rfl rfl ?_
          rw [e9]
          refine wp_iconst (v := 3) dX8_takesE_101 (by decide) rfl ?_
          refine wp_icmp_ne (t := 158) dX8_takesE_102 rfl rfl (fun h102 => absurd h48 h102) (fun h102 => ?_)
          refine wp_aload_n dX8_takesE_105 rfl rfl ?_
          refine wn_getI dX8_takesE_106 fRX8_195 o40 rfl rfl ?_
          rw [ev]
          refine wp_bipush (v := 40) dX8_takesE_109 (by decide) rfl ?_
          refine wp_icmp_ne (t := 158) dX8_takesE_111 rfl rfl (fun h111 => ?_) (fun h111 => ?_)
          · by_cases hq : ptQ key T v (gN tp n f - f)
            · have hIp := hI.pt (x := ptC key T v)
              have hfn : f < n := Nat.lt_of_le_of_ne hf (fun q => by subst q; rw [gT_n] at eT; subst eT; exact hq.elim (fun z => absurd z (by decide)) (fun z => absurd z.1 (by decide)))
              refine wp_aload_n dX8_takesE_158 rfl rfl ?_
              refine wn_callV0i dX8_takesE_159 rRX8_225 (rcv_of o40 rfl) (Nat.le_of_ble_eq_true rfl)  (Nat.le_of_ble_eq_true rfl) rfl (c8_takesPart (x := ptC key T v) hn hf ht h6 h12 h eT ev rfl hq (by omega)) (fun x159 s159 hq159 => ?_)
              obtain ⟨e159, h159⟩ := hq159
              subst e159
              refine wp_if_eq (t := 170) dX8_takesE_162 rfl rfl (fun h162 => absurd h162 (by decide)) (fun h162 => ?_)
              refine wp_iconst (v := 0) dX8_takesE_165 (by decide) rfl ?_
              refine wp_istore_n (l' := [_, _, _, some _, _]) dX8_takesE_166 rfl rfl ?_
              refine wp_goto (t := 172) dX8_takesE_167 rfl ?_
              refine wp_aload_n dX8_takesE_172 rfl rfl ?_
              refine wn_callV0d dX8_takesE_173 rRX8_229 (rcv_of o40 rfl) (Nat.le_of_ble_eq_true rfl)  (Nat.le_of_ble_eq_true rfl) rfl (c8_notsOpen (wf := zwf (ptZ z (ptC key T v))) (h := zh (ptZ z (ptC key T v))) h159.1.2.1 h159.1.2.2.2.1 (by have := hIp.1; omega)) ?_
              refine wp_istore_n (l' := [_, _, some _, _, _]) dX8_takesE_176 rfl rfl ?_
              refine wp_goto (t := 28) dX8_takesE_177 rfl ?_
              rw [plp_s hcond (z' := ptZ z (ptC key T v)) (by rw [eT, hpst]; exact pst_C hw (fun q => h57 q.2.1) (fun q => h111 q.2.1) hq)]
              exact ih _ _ _ _ (by omega) hgf.2 h159 (hIp.le (by omega)) _
            · refine wp_aload_n dX8_takesE_158 rfl rfl ?_
              refine wn_callV0d dX8_takesE_159 rRX8_225 (rcv_of o40 rfl) (Nat.le_of_ble_eq_true rfl)  (Nat.le_of_ble_eq_true rfl) rfl (c8_takesPartN hn ((h.2.2.2.1 _ (by decide)).trans ht) ((h.2.2.1 6 (by decide)).trans h6) ((h.2.2.1 12 (by decide)).trans h12) h.2.1 hf eT ev hq) ?_
              refine wp_if_eq (t := 170) dX8_takesE_162 rfl rfl (fun h162 => ?_) (fun h162 => absurd rfl h162)
              refine wp_iconst (v := 0) dX8_takesE_170 (by decide) rfl ?_
              refine wp_iret dX8_takesE_171 rfl (by decide) ?_
              refine ⟨_, _, rfl, rfl, ?_⟩
              rw [plp_n hcond (by rw [eT, hpst]; exact pst_D hw (fun q => h57 q.2.1) (fun q => h111 q.2.1) hq)]
              exact ⟨rfl, h.1, h.2.1.1, h.2.2⟩
          · refine wp_iload_n dX8_takesE_114 rfl rfl ?_
            refine wp_bipush (v := 8) dX8_takesE_115 (by decide) rfl ?_
            refine wp_icmp_ge (t := 158) dX8_takesE_117 rfl rfl (fun h117 => ?_) (fun h117 => ?_)
            · by_cases hq : ptQ key T v (gN tp n f - f)
              · have hIp := hI.pt (x := ptC key T v)
                have hfn : f < n := Nat.lt_of_le_of_ne hf (fun q => by subst q; rw [gT_n] at eT; subst eT; exact hq.elim (fun z => absurd z (by decide)) (fun z => absurd z.1 (by decide)))
                refine wp_aload_n dX8_takesE_158 rfl rfl ?_
                refine wn_callV0i dX8_takesE_159 rRX8_225 (rcv_of o40 rfl) (Nat.le_of_ble_eq_true rfl)  (Nat.le_of_ble_eq_true rfl) rfl (c8_takesPart (x := ptC key T v) hn hf ht h6 h12 h eT ev rfl hq (by omega)) (fun x159 s159 hq159 => ?_)
                obtain ⟨e159, h159⟩ := hq159
                subst e159
                refine wp_if_eq (t := 170) dX8_takesE_162 rfl rfl (fun h162 => absurd h162 (by decide)) (fun h162 => ?_)
                refine wp_iconst (v := 0) dX8_takesE_165 (by decide) rfl ?_
                refine wp_istore_n (l' := [_, _, _, some _, _]) dX8_takesE_166 rfl rfl ?_
                refine wp_goto (t := 172) dX8_takesE_167 rfl ?_
                refine wp_aload_n dX8_takesE_172 rfl rfl ?_
                refine wn_callV0d dX8_takesE_173 rRX8_229 (rcv_of o40 rfl) (Nat.le_of_ble_eq_true rfl)  (Nat.le_of_ble_eq_true rfl) rfl (c8_notsOpen (wf := zwf (ptZ z (ptC key T v))) (h := zh (ptZ z (ptC key T v))) h159.1.2.1 h159.1.2.2.2.1 (by have := hIp.1; omega)) ?_
                refine wp_istore_n (l' := [_, _, some _, _, _]) dX8_takesE_176 rfl rfl ?_
                refine wp_goto (t := 28) dX8_takesE_177 rfl ?_
                rw [plp_s hcond (z' := ptZ z (ptC key T v)) (by rw [eT, hpst]; exact pst_C hw (fun q => h57 q.2.1) (fun q => absurd q.2.2 (by have := (nI_leI (a := 8) (by decide) (by omega)).mp h117; omega)) hq)]
                exact ih _ _ _ _ (by omega) hgf.2 h159 (hIp.le (by omega)) _
              · refine wp_aload_n dX8_takesE_158 rfl rfl ?_
                refine wn_callV0d dX8_takesE_159 rRX8_225 (rcv_of o40 rfl) (Nat.le_of_ble_eq_true rfl)  (Nat.le_of_ble_eq_true rfl) rfl (c8_takesPartN hn ((h.2.2.2.1 _ (by decide)).trans ht) ((h.2.2.1 6 (by decide)).trans h6) ((h.2.2.1 12 (by decide)).trans h12) h.2.1 hf eT ev hq) ?_
                refine wp_if_eq (t := 170) dX8_takesE_162 rfl rfl (fun h162 => ?_) (fun h162 => absurd rfl h162)
                refine wp_iconst (v := 0) dX8_takesE_170 (by decide) rfl ?_
                refine wp_iret dX8_takesE_171 rfl (by decide) ?_
                refine ⟨_, _, rfl, rfl, ?_⟩
                rw [plp_n hcond (by rw [eT, hpst]; exact pst_D hw (fun q => h57 q.2.1) (fun q => absurd q.2.2 (by have := (nI_leI (a := 8) (by decide) (by omega)).mp h117; omega)) hq)]
                exact ⟨rfl, h.1, h.2.1.1, h.2.2⟩
            · have hB : zp z < 8 := by have := mt (nI_leI (a := 8) (by decide) (by omega)).mpr h117; omega
              have hfn : f < n := Nat.lt_of_le_of_ne hf (fun q => by subst q; rw [gT_n] at eT; exact absurd (eT.trans h102) (by decide))
              refine wp_aload_n dX8_takesE_120 rfl rfl ?_
              refine wn_getR dX8_takesE_121 fRX8_35 o40 rfl rfl rfl ?_
              refine wp_aload_n dX8_takesE_124 rfl rfl ?_
              refine wn_getI dX8_takesE_125 fRX8_207 o40 rfl rfl ?_
              rw [a4]
              refine wp_bipush (v := (-11)) dX8_takesE_128 (by decide) rfl ?_
              refine wn_iast dX8_takesE_130 (o41 8 rfl) rfl (nIx rfl (by omega)) (show zh z < 96 by omega) rfl ?_
              refine wp_aload_n dX8_takesE_131 rfl rfl ?_
              refine wp_dup dX8_takesE_132 rfl rfl ?_
              refine wn_getI dX8_takesE_133 fRX8_207 o40 rfl rfl ?_
              rw [sI_nr (by decide), a4]
              refine wp_iconst (v := 1) dX8_takesE_136 (by decide) rfl ?_
              refine wp_iadd dX8_takesE_137 rfl ?_
              rw [nI_1]
              refine wn_putI dX8_takesE_138 fRX8_207 o40 rfl rfl rfl ?_
              refine wp_iinc (l' := [_, some _, _, _, _]) (v := 1) dX8_takesE_141 rfl (by decide) rfl rfl ?_
              refine wp_aload_n dX8_takesE_144 rfl rfl ?_
              refine wn_getR dX8_takesE_145 fRX8_38 o40 rfl rfl rfl ?_
              rw [nI_1]
              refine wp_iload_n dX8_takesE_148 rfl rfl ?_
              refine wp_iconst (v := 0) dX8_takesE_149 (by decide) rfl ?_
              refine wn_zast dX8_takesE_150 o43 rfl (nIx rfl (by omega)) (show zp z + 1 < 10 by omega) rfl ?_
              rw [show vp_nar .boolean 0 = 0 from rfl]
              refine wp_aload_n dX8_takesE_151 rfl rfl ?_
              refine wn_callV0n dX8_takesE_152 rRX8_204 (rcv_of o40 rfl) (Nat.le_of_ble_eq_true rfl)  (Nat.le_of_ble_eq_true rfl) rfl (c8_goZ (z := opZ z) hn hf ht h6 ((h.zj.psh.z (z' := hpZ (psh z (-11)) (zh z + 1) (zp z + 1)) ⟨rfl, rfl, rfl, rfl, rfl, rfl⟩).te (b := false) (v := 0) rfl)) (fun s152 hq152 => ?_)
              have h152 := hq152
              refine wp_goto (t := 172) dX8_takesE_155 rfl ?_
              refine wp_aload_n dX8_takesE_172 rfl rfl ?_
              refine wn_callV0d dX8_takesE_173 rRX8_229 (rcv_of o40 rfl) (Nat.le_of_ble_eq_true rfl)  (Nat.le_of_ble_eq_true rfl) rfl (c8_notsOpen (wf := zwf (opZ z)) (h := zh (opZ z)) h152.1.2.1 h152.1.2.2.2.1 (show zh z + 1 ≤ 96 by omega)) ?_
              refine wp_istore_n (l' := [_, _, some _, _, _]) dX8_takesE_176 rfl rfl ?_
              refine wp_goto (t := 28) dX8_takesE_177 rfl ?_
              rw [plp_s hcond (z' := opZ z) (by rw [eT, hpst]; exact pst_B hw (fun q => h57 q.2.1) ⟨h102, h111, hB⟩)]
              exact ih _ _ _ _ (by omega) hgf.2 h152 ((hI.op hw hB).le (by omega)) _
        · refine wp_iload_n dX8_takesE_60 rfl rfl ?_
          refine wp_bipush (v := 8) dX8_takesE_61 (by decide) rfl ?_
          refine wp_icmp_ge (t := 97) dX8_takesE_63 rfl rfl (fun h63 => ?_) (fun h63 => ?_)
          · refine wp_aload_n dX8_takesE_97 rfl rfl ?_
            refine wn_getI dX8_takesE_98 fRX8_189 o40 rfl rfl ?_
            rw [e9]
            refine wp_iconst (v := 3) dX8_takesE_101 (by decide) rfl ?_
            refine wp_icmp_ne (t := 158) dX8_takesE_102 rfl rfl (fun h102 => absurd h48 h102) (fun h102 => ?_)
            refine wp_aload_n dX8_takesE_105 rfl rfl ?_
            refine wn_getI dX8_takesE_106 fRX8_195 o40 rfl rfl ?_
            rw [ev]
            refine wp_bipush (v := 40) dX8_takesE_109 (by decide) rfl ?_
            refine wp_icmp_ne (t := 158) dX8_takesE_111 rfl rfl (fun h111 => ?_) (fun h111 => ?_)
            · by_cases hq : ptQ key T v (gN tp n f - f)
              · have hIp := hI.pt (x := ptC key T v)
                have hfn : f < n := Nat.lt_of_le_of_ne hf (fun q => by subst q; rw [gT_n] at eT; subst eT; exact hq.elim (fun z => absurd z (by decide)) (fun z => absurd z.1 (by decide)))
                refine wp_aload_n dX8_takesE_158 rfl rfl ?_
                refine wn_callV0i dX8_takesE_159 rRX8_225 (rcv_of o40 rfl) (Nat.le_of_ble_eq_true rfl)  (Nat.le_of_ble_eq_true rfl) rfl (c8_takesPart (x := ptC key T v) hn hf ht h6 h12 h eT ev rfl hq (by omega)) (fun x159 s159 hq159 => ?_)
                obtain ⟨e159, h159⟩ := hq159
                subst e159
                refine wp_if_eq (t := 170) dX8_takesE_162 rfl rfl (fun h162 => absurd h162 (by decide)) (fun h162 => ?_)
                refine wp_iconst (v := 0) dX8_takesE_165 (by decide) rfl ?_
                refine wp_istore_n (l' := [_, _, _, some _, _]) dX8_takesE_166 rfl rfl ?_
                refine wp_goto (t := 172) dX8_takesE_167 rfl ?_
                refine wp_aload_n dX8_takesE_172 rfl rfl ?_
                refine wn_callV0d dX8_takesE_173 rRX8_229 (rcv_of o40 rfl) (Nat.le_of_ble_eq_true rfl)  (Nat.le_of_ble_eq_true rfl) rfl (c8_notsOpen (wf := zwf (ptZ z (ptC key T v))) (h := zh (ptZ z (ptC key T v))) h159.1.2.1 h159.1.2.2.2.1 (by have := hIp.1; omega)) ?_
                refine wp_istore_n (l' := [_, _, some _, _, _]) dX8_takesE_176 rfl rfl ?_
                refine wp_goto (t := 28) dX8_takesE_177 rfl ?_
                rw [plp_s hcond (z' := ptZ z (ptC key T v)) (by rw [eT, hpst]; exact pst_C hw (fun q => absurd q.2.2 (by have := (nI_leI (a := 8) (by decide) (by omega)).mp h63; omega)) (fun q => h111 q.2.1) hq)]
                exact ih _ _ _ _ (by omega) hgf.2 h159 (hIp.le (by omega)) _
              · refine wp_aload_n dX8_takesE_158 rfl rfl ?_
                refine wn_callV0d dX8_takesE_159 rRX8_225 (rcv_of o40 rfl) (Nat.le_of_ble_eq_true rfl)  (Nat.le_of_ble_eq_true rfl) rfl (c8_takesPartN hn ((h.2.2.2.1 _ (by decide)).trans ht) ((h.2.2.1 6 (by decide)).trans h6) ((h.2.2.1 12 (by decide)).trans h12) h.2.1 hf eT ev hq) ?_
                refine wp_if_eq (t := 170) dX8_takesE_162 rfl rfl (fun h162 => ?_) (fun h162 => absurd rfl h162)
                refine wp_iconst (v := 0) dX8_takesE_170 (by decide) rfl ?_
                refine wp_iret dX8_takesE_171 rfl (by decide) ?_
                refine ⟨_, _, rfl, rfl, ?_⟩
                rw [plp_n hcond (by rw [eT, hpst]; exact pst_D hw (fun q => absurd q.2.2 (by have := (nI_leI (a := 8) (by decide) (by omega)).mp h63; omega)) (fun q => h111 q.2.1) hq)]
                exact ⟨rfl, h.1, h.2.1.1, h.2.2⟩
            · refine wp_iload_n dX8_takesE_114 rfl rfl ?_
              refine wp_bipush (v := 8) dX8_takesE_115 (by decide) rfl ?_
              refine wp_icmp_ge (t := 158) dX8_takesE_117 rfl rfl (fun h117 => ?_) (fun h117 => ?_)
              · by_cases hq : ptQ key T v (gN tp n f - f)
                · have hIp := hI.pt (x := ptC key T v)
                  have hfn : f < n := Nat.lt_of_le_of_ne hf (fun q => by subst q; rw [gT_n] at eT; subst eT; exact hq.elim (fun z => absurd z (by decide)) (fun z => absurd z.1 (by decide)))
                  refine wp_aload_n dX8_takesE_158 rfl rfl ?_
                  refine wn_callV0i dX8_takesE_159 rRX8_225 (rcv_of o40 rfl) (Nat.le_of_ble_eq_true rfl)  (Nat.le_of_ble_eq_true rfl) rfl (c8_takesPart (x := ptC key T v) hn hf ht h6 h12 h eT ev rfl hq (by omega)) (fun x159 s159 hq159 => ?_)
                  obtain ⟨e159, h159⟩ := hq159
                  subst e159
                  refine wp_if_eq (t := 170) dX8_takesE_162 rfl rfl (fun h162 => absurd h162 (by decide)) (fun h162 => ?_)
                  refine wp_iconst (v := 0) dX8_takesE_165 (by decide) rfl ?_
                  refine wp_istore_n (l' := [_, _, _, some _, _]) dX8_takesE_166 rfl rfl ?_
                  refine wp_goto (t := 172) dX8_takesE_167 rfl ?_
                  refine wp_aload_n dX8_takesE_172 rfl rfl ?_
                  refine wn_callV0d dX8_takesE_173 rRX8_229 (rcv_of o40 rfl) (Nat.le_of_ble_eq_true rfl)  (Nat.le_of_ble_eq_true rfl) rfl (c8_notsOpen (wf := zwf (ptZ z (ptC key T v))) (h := zh (ptZ z (ptC key T v))) h159.1.2.1 h159.1.2.2.2.1 (by have := hIp.1; omega)) ?_
                  refine wp_istore_n (l' := [_, _, some _, _, _]) dX8_takesE_176 rfl rfl ?_
                  refine wp_goto (t := 28) dX8_takesE_177 rfl ?_
                  rw [plp_s hcond (z' := ptZ z (ptC key T v)) (by rw [eT, hpst]; exact pst_C hw (fun q => absurd q.2.2 (by have := (nI_leI (a := 8) (by decide) (by omega)).mp h63; omega)) (fun q => absurd q.2.2 (by have := (nI_leI (a := 8) (by decide) (by omega)).mp h117; omega)) hq)]
                  exact ih _ _ _ _ (by omega) hgf.2 h159 (hIp.le (by omega)) _
                · refine wp_aload_n dX8_takesE_158 rfl rfl ?_
                  refine wn_callV0d dX8_takesE_159 rRX8_225 (rcv_of o40 rfl) (Nat.le_of_ble_eq_true rfl)  (Nat.le_of_ble_eq_true rfl) rfl (c8_takesPartN hn ((h.2.2.2.1 _ (by decide)).trans ht) ((h.2.2.1 6 (by decide)).trans h6) ((h.2.2.1 12 (by decide)).trans h12) h.2.1 hf eT ev hq) ?_
                  refine wp_if_eq (t := 170) dX8_takesE_162 rfl rfl (fun h162 => ?_) (fun h162 => absurd rfl h162)
                  refine wp_iconst (v := 0) dX8_takesE_170 (by decide) rfl ?_
                  refine wp_iret dX8_takesE_171 rfl (by decide) ?_
                  refine ⟨_, _, rfl, rfl, ?_⟩
                  rw [plp_n hcond (by rw [eT, hpst]; exact pst_D hw (fun q => absurd q.2.2 (by have := (nI_leI (a := 8) (by decide) (by omega)).mp h63; omega)) (fun q => absurd q.2.2 (by have := (nI_leI (a := 8) (by decide) (by omega)).mp h117; omega)) hq)]
                  exact ⟨rfl, h.1, h.2.1.1, h.2.2⟩
              · have hB : zp z < 8 := by have := mt (nI_leI (a := 8) (by decide) (by omega)).mpr h117; omega
                have hfn : f < n := Nat.lt_of_le_of_ne hf (fun q => by subst q; rw [gT_n] at eT; exact absurd (eT.trans h102) (by decide))
                refine wp_aload_n dX8_takesE_120 rfl rfl ?_
                refine wn_getR dX8_takesE_121 fRX8_35 o40 rfl rfl rfl ?_
                refine wp_aload_n dX8_takesE_124 rfl rfl ?_
                refine wn_getI dX8_takesE_125 fRX8_207 o40 rfl rfl ?_
                rw [a4]
                refine wp_bipush (v := (-11)) dX8_takesE_128 (by decide) rfl ?_
                refine wn_iast dX8_takesE_130 (o41 8 rfl) rfl (nIx rfl (by omega)) (show zh z < 96 by omega) rfl ?_
                refine wp_aload_n dX8_takesE_131 rfl rfl ?_
                refine wp_dup dX8_takesE_132 rfl rfl ?_
                refine wn_getI dX8_takesE_133 fRX8_207 o40 rfl rfl ?_
                rw [sI_nr (by decide), a4]
                refine wp_iconst (v := 1) dX8_takesE_136 (by decide) rfl ?_
                refine wp_iadd dX8_takesE_137 rfl ?_
                rw [nI_1]
                refine wn_putI dX8_takesE_138 fRX8_207 o40 rfl rfl rfl ?_
                refine wp_iinc (l' := [_, some _, _, _, _]) (v := 1) dX8_takesE_141 rfl (by decide) rfl rfl ?_
                refine wp_aload_n dX8_takesE_144 rfl rfl ?_
                refine wn_getR dX8_takesE_145 fRX8_38 o40 rfl rfl rfl ?_
                rw [nI_1]
                refine wp_iload_n dX8_takesE_148 rfl rfl ?_
                refine wp_iconst (v := 0) dX8_takesE_149 (by decide) rfl ?_
                refine wn_zast dX8_takesE_150 o43 rfl (nIx rfl (by omega)) (show zp z + 1 < 10 by omega) rfl ?_
                rw [show vp_nar .boolean 0 = 0 from rfl]
                refine wp_aload_n dX8_takesE_151 rfl rfl ?_
                refine wn_callV0n dX8_takesE_152 rRX8_204 (rcv_of o40 rfl) (Nat.le_of_ble_eq_true rfl)  (Nat.le_of_ble_eq_true rfl) rfl (c8_goZ (z := opZ z) hn hf ht h6 ((h.zj.psh.z (z' := hpZ (psh z (-11)) (zh z + 1) (zp z + 1)) ⟨rfl, rfl, rfl, rfl, rfl, rfl⟩).te (b := false) (v := 0) rfl)) (fun s152 hq152 => ?_)
                have h152 := hq152
                refine wp_goto (t := 172) dX8_takesE_155 rfl ?_
                refine wp_aload_n dX8_takesE_172 rfl rfl ?_
                refine wn_callV0d dX8_takesE_173 rRX8_229 (rcv_of o40 rfl) (Nat.le_of_ble_eq_true rfl)  (Nat.le_of_ble_eq_true rfl) rfl (c8_notsOpen (wf := zwf (opZ z)) (h := zh (opZ z)) h152.1.2.1 h152.1.2.2.2.1 (show zh z + 1 ≤ 96 by omega)) ?_
                refine wp_istore_n (l' := [_, _, some _, _, _]) dX8_takesE_176 rfl rfl ?_
                refine wp_goto (t := 28) dX8_takesE_177 rfl ?_
                rw [plp_s hcond (z' := opZ z) (by rw [eT, hpst]; exact pst_B hw (fun q => absurd q.2.2 (by have := (nI_leI (a := 8) (by decide) (by omega)).mp h63; omega)) ⟨h102, h111, hB⟩)]
                exact ih _ _ _ _ (by omega) hgf.2 h152 ((hI.op hw hB).le (by omega)) _
          · have hA : nts (zwf z) (zh z) < 8 := by have := mt (nI_leI (a := 8) (by decide) (by omega)).mpr h63; omega
            have hfn : f < n := Nat.lt_of_le_of_ne hf (fun q => by subst q; rw [gT_n] at eT; exact absurd (eT.trans h48) (by decide))
            refine wp_aload_n dX8_takesE_66 rfl rfl ?_
            refine wn_getR dX8_takesE_67 fRX8_35 o40 rfl rfl rfl ?_
            refine wp_aload_n dX8_takesE_70 rfl rfl ?_
            refine wn_getI dX8_takesE_71 fRX8_207 o40 rfl rfl ?_
            rw [a4]
            refine wp_bipush (v := (-10)) dX8_takesE_74 (by decide) rfl ?_
            refine wn_iast dX8_takesE_76 (o41 8 rfl) rfl (nIx rfl (by omega)) (show zh z < 96 by omega) rfl ?_
            refine wp_aload_n dX8_takesE_77 rfl rfl ?_
            refine wp_dup dX8_takesE_78 rfl rfl ?_
            refine wn_getI dX8_takesE_79 fRX8_207 o40 rfl rfl ?_
            rw [sI_nr (by decide), a4]
            refine wp_iconst (v := 1) dX8_takesE_82 (by decide) rfl ?_
            refine wp_iadd dX8_takesE_83 rfl ?_
            rw [nI_1]
            refine wn_putI dX8_takesE_84 fRX8_207 o40 rfl rfl rfl ?_
            refine wp_iinc (l' := [_, _, some _, _, _]) (v := 1) dX8_takesE_87 rfl (by decide) rfl rfl ?_
            refine wp_aload_n dX8_takesE_90 rfl rfl ?_
            refine wn_callV0n dX8_takesE_91 rRX8_204 (rcv_of o40 rfl) (Nat.le_of_ble_eq_true rfl)  (Nat.le_of_ble_eq_true rfl) rfl (c8_goZ hn hf ht h6 h.zj.psh) (fun s91 hq91 => ?_)
            have h91 := hq91
            refine wp_goto (t := 172) dX8_takesE_94 rfl ?_
            refine wp_aload_n dX8_takesE_172 rfl rfl ?_
            refine wn_callV0d dX8_takesE_173 rRX8_229 (rcv_of o40 rfl) (Nat.le_of_ble_eq_true rfl)  (Nat.le_of_ble_eq_true rfl) rfl (c8_notsOpen (wf := zwf (psh z (-10))) (h := zh (psh z (-10))) h91.1.2.1 h91.1.2.2.2.1 (show zh z + 1 ≤ 96 by omega)) ?_
            refine wp_istore_n (l' := [_, _, some _, _, _]) dX8_takesE_176 rfl rfl ?_
            refine wp_goto (t := 28) dX8_takesE_177 rfl ?_
            rw [plp_s hcond (z' := psh z (-10)) (by rw [eT, hpst]; exact pst_A hw ⟨h48, h57, hA⟩)]
            exact ih _ _ _ _ (by omega) hgf.2 h91 ((hI.nt hw).le (by omega)) _
    · have hw0 : zwt z = false := Bool.eq_false_iff.mpr hw
      by_cases hT0 : T = 0
      · refine wp_iload_n dX8_takesE_28 rfl rfl ?_
        refine wp_if_ne_b (t := 39) dX8_takesE_29 rfl rfl (fun h29 => absurd h29 hw) (fun h29 => ?_)
        refine wp_aload_n dX8_takesE_32 rfl rfl ?_
        refine wn_getI dX8_takesE_33 fRX8_189 o40 rfl rfl ?_
        rw [e9]
        refine wp_if_eq (t := 345) dX8_takesE_36 rfl rfl (fun h36 => ?_) (fun h36 => absurd hT0 h36)
        refine wp_aload_n dX8_takesE_345 rfl rfl ?_
        refine wp_iconst (v := 0) dX8_takesE_346 (by decide) rfl ?_
        refine wn_callV1n dX8_takesE_347 rRX8_222 (rcv_of o40 rfl) (Nat.le_of_ble_eq_true rfl) rfl (Nat.le_of_ble_eq_true rfl) rfl (c8_settle0 (z := z) (by omega) h.zj) (fun s347 hq347 => ?_)
        obtain ⟨h347, h347x⟩ := hq347
        refine wp_iload_n dX8_takesE_350 rfl rfl ?_
        refine wp_if_ne (t := 358) dX8_takesE_351 rfl rfl (fun h351 => ?_) (fun h351 => ?_)
        · refine wp_iconst (v := 0) dX8_takesE_358 (by decide) rfl ?_
          refine wp_iret dX8_takesE_359 rfl (by decide) ?_
          refine ⟨_, _, rfl, rfl, ?_⟩
          rw [plp_e ⟨hw0, eT.trans hT0⟩]
          refine ⟨?_, h347.1, (h347x.trans h.2.1.1), h347.2.2⟩
          rw [show bI (decide (zp z = 0) = true) = 0 from bI_f (fun q => h351 (by rw [of_decide_eq_true q]; rfl))]
        · refine wp_iconst (v := 1) dX8_takesE_354 (by decide) rfl ?_
          refine wp_goto (t := 359) dX8_takesE_355 rfl ?_
          refine wp_iret dX8_takesE_359 rfl (by decide) ?_
          refine ⟨_, _, rfl, rfl, ?_⟩
          rw [plp_e ⟨hw0, eT.trans hT0⟩]
          refine ⟨?_, h347.1, (h347x.trans h.2.1.1), h347.2.2⟩
          rw [show bI (decide (zp z = 0) = true) = 1 from bI_t (decide_eq_true ((nI_eq (b := 0) (by omega) (by decide)).mp h351))]
      · have hcond : ¬ (zwt z = false ∧ gT tp n f en = 0) := fun q => hT0 (eT.symm.trans q.2)
        have hfn : f < n := Nat.lt_of_le_of_ne hf (fun q => by subst q; rw [gT_n] at eT; exact hT0 eT.symm)
        obtain ⟨v, ev⟩ : ∃ v, gV tp n f 0 = v := ⟨_, rfl⟩
        have e10 : s1.1 (40, 0, 0) 10 = v := (h.2.1.2.2.2.1 hfn).trans ev
        refine wp_iload_n dX8_takesE_28 rfl rfl ?_
        refine wp_if_ne_b (t := 39) dX8_takesE_29 rfl rfl (fun h29 => absurd h29 hw) (fun h29 => ?_)
        refine wp_aload_n dX8_takesE_32 rfl rfl ?_
        refine wn_getI dX8_takesE_33 fRX8_189 o40 rfl rfl ?_
        rw [e9]
        refine wp_if_eq (t := 345) dX8_takesE_36 rfl rfl (fun h36 => absurd h36 hT0) (fun h36 => ?_)
        refine wp_iload_n dX8_takesE_39 rfl rfl ?_
        refine wp_if_eq_b (t := 180) dX8_takesE_40 rfl rfl (fun h40 => ?_) (fun h40 => absurd h40 hw)
        refine wp_aload_n dX8_takesE_180 rfl rfl ?_
        refine wn_getI dX8_takesE_181 fRX8_189 o40 rfl rfl ?_
        rw [e9]
        refine wp_iconst (v := 3) dX8_takesE_184 (by decide) rfl ?_
        refine wp_icmp_ne (t := 237) dX8_takesE_185 rfl rfl (fun h185 => ?_) (fun h185 => ?_)
        · refine wp_aload_n dX8_takesE_237 rfl rfl ?_
          refine wn_callV0d dX8_takesE_238 rRX8_232 (rcv_of o40 rfl) (Nat.le_of_ble_eq_true rfl)  (Nat.le_of_ble_eq_true rfl) rfl (c8_signHere) ?_
          rw [e9, e10]
          refine wp_istore (l' := [_, _, _, _, some _]) dX8_takesE_241 rfl rfl ?_
          refine wp_iload dX8_takesE_243 rfl rfl ?_
          refine wp_if_eq (t := 266) dX8_takesE_245 rfl rfl (fun h245 => ?_) (fun h245 => ?_)
          · refine wp_iconst (v := 0) dX8_takesE_266 (by decide) rfl ?_
            refine wp_iret dX8_takesE_267 rfl (by decide) ?_
            refine ⟨_, _, rfl, rfl, ?_⟩
            rw [plp_n hcond (by rw [eT, ev]; exact pst_F hw (fun q => h185 q.1) (Or.inl h245))]
            exact ⟨rfl, h.1, h.2.1.1, h.2.2⟩
          · refine wp_iload dX8_takesE_248 rfl rfl ?_
            refine wn_callS1d dX8_takesE_250 rRX8_210 (Nat.le_of_ble_eq_true rfl) rfl (Nat.le_of_ble_eq_true rfl) rfl (c8_rank) ?_
            refine wp_iconst (v := 3) dX8_takesE_253 (by decide) rfl ?_
            refine wp_icmp_ne (t := 268) dX8_takesE_254 rfl rfl (fun h254 => ?_) (fun h254 => ?_)
            · refine wp_aload_n dX8_takesE_268 rfl rfl ?_
              refine wn_getR dX8_takesE_269 fRX8_38 o40 rfl rfl rfl ?_
              refine wp_iload_n dX8_takesE_272 rfl rfl ?_
              refine wp_iload dX8_takesE_273 rfl rfl ?_
              refine wn_callS1d dX8_takesE_275 rRX8_210 (Nat.le_of_ble_eq_true rfl) rfl (Nat.le_of_ble_eq_true rfl) rfl (c8_rank) ?_
              refine wp_iconst (v := 3) dX8_takesE_278 (by decide) rfl ?_
              refine wp_icmp_eq (t := 300) dX8_takesE_279 rfl rfl (fun h279 => ?_) (fun h279 => ?_)
              · refine wp_iconst (v := 1) dX8_takesE_300 (by decide) rfl ?_
                refine wp_goto (t := 305) dX8_takesE_301 rfl ?_
                refine wn_zast dX8_takesE_305 o43 rfl (nIx rfl (by omega)) (show zp z < 10 by omega) rfl ?_
                rw [show vp_nar .boolean 1 = 1 from rfl]
                have hte := h.zj.te (k := zp z) (v := 1) (b := (decide (rnk (sgn T v) = 3) || (decide (3 < rnk (sgn T v)) && zte z (zp z)))) (by rw [show (decide (rnk (sgn T v) = 3) || (decide (3 < rnk (sgn T v)) && zte z (zp z))) = true from by rw [decide_eq_true h279]; rfl]; rfl)
                refine wp_aload_n dX8_takesE_306 rfl rfl ?_
                refine wp_iload dX8_takesE_307 rfl rfl ?_
                refine wn_callS1d dX8_takesE_309 rRX8_210 (Nat.le_of_ble_eq_true rfl) rfl (Nat.le_of_ble_eq_true rfl) rfl (c8_rank) ?_
                refine wn_callV1n dX8_takesE_312 rRX8_222 (rcv_of o40 rfl) (Nat.le_of_ble_eq_true rfl) rfl (Nat.le_of_ble_eq_true rfl) rfl (c8_setZ (z := stZ z (zp z) (decide (rnk (sgn T v) = 3) || (decide (3 < rnk (sgn T v)) && zte z (zp z)))) (ls := rnk (sgn T v)) (show zc z + zh z ≤ 96 by omega) hte) (fun s312 hq312 => ?_)
                have h312 := hq312
                have hcs := sz_c (z := stZ z (zp z) (decide (rnk (sgn T v) = 3) || (decide (3 < rnk (sgn T v)) && zte z (zp z)))) (ls := rnk (sgn T v))
                have hcs2 : zc (stZ z (zp z) (decide (rnk (sgn T v) = 3) || (decide (3 < rnk (sgn T v)) && zte z (zp z)))) + zh (stZ z (zp z) (decide (rnk (sgn T v) = 3) || (decide (3 < rnk (sgn T v)) && zte z (zp z)))) = zc z + zh z := rfl
                refine wp_aload_n dX8_takesE_315 rfl rfl ?_
                refine wn_getR dX8_takesE_316 fRX8_35 o40 rfl rfl rfl ?_
                refine wp_aload_n dX8_takesE_319 rfl rfl ?_
                refine wn_getI dX8_takesE_320 fRX8_207 o40 rfl rfl ?_
                rw [h312.1.2.2.2.1]
                refine wp_iload dX8_takesE_323 rfl rfl ?_
                refine wn_iast dX8_takesE_325 (o41 8 rfl) rfl (nIx rfl (by omega)) (show zh (sz (stZ z (zp z) (decide (rnk (sgn T v) = 3) || (decide (3 < rnk (sgn T v)) && zte z (zp z)))) (rnk (sgn T v))) < 96 by omega) rfl ?_
                refine wp_aload_n dX8_takesE_326 rfl rfl ?_
                refine wp_dup dX8_takesE_327 rfl rfl ?_
                refine wn_getI dX8_takesE_328 fRX8_207 o40 rfl rfl ?_
                rw [sI_nr (by decide), h312.1.2.2.2.1]
                refine wp_iconst (v := 1) dX8_takesE_331 (by decide) rfl ?_
                refine wp_iadd dX8_takesE_332 rfl ?_
                rw [nI_1]
                refine wn_putI dX8_takesE_333 fRX8_207 o40 rfl rfl rfl ?_
                refine wp_iconst (v := 1) dX8_takesE_336 (by decide) rfl ?_
                refine wp_istore_n (l' := [_, _, _, some _, _]) dX8_takesE_337 rfl rfl ?_
                refine wp_aload_n dX8_takesE_338 rfl rfl ?_
                refine wn_callV0n dX8_takesE_339 rRX8_204 (rcv_of o40 rfl) (Nat.le_of_ble_eq_true rfl)  (Nat.le_of_ble_eq_true rfl) rfl (c8_goZ (z := sgZ z (sgn T v)) hn hf ht h6 (h312.psh.z ⟨rfl, rfl, rfl, rfl, rfl, rfl⟩)) (fun s339 hq339 => ?_)
                have h339 := hq339
                refine wp_goto (t := 28) dX8_takesE_342 rfl ?_
                have hsg := hI.sg hw0 (sgn_9 h245)
                rw [← hsg.2]
                rw [plp_s hcond (z' := sgZ z (sgn T v)) (by rw [eT, ev]; exact pst_G hw (fun q => h185 q.1) (fun q => q.elim h245 (fun q => h254 q.1)))]
                exact ih _ _ _ _ (by omega) hgf.2 h339 (hsg.1.le (by omega)) _
              · refine wp_iload dX8_takesE_282 rfl rfl ?_
                refine wn_callS1d dX8_takesE_284 rRX8_210 (Nat.le_of_ble_eq_true rfl) rfl (Nat.le_of_ble_eq_true rfl) rfl (c8_rank) ?_
                refine wp_iconst (v := 3) dX8_takesE_287 (by decide) rfl ?_
                refine wp_icmp_le (t := 304) dX8_takesE_288 rfl rfl (fun h288 => ?_) (fun h288 => ?_)
                · refine wp_iconst (v := 0) dX8_takesE_304 (by decide) rfl ?_
                  refine wn_zast dX8_takesE_305 o43 rfl (nIx rfl (by omega)) (show zp z < 10 by omega) rfl ?_
                  rw [show vp_nar .boolean 0 = 0 from rfl]
                  have hte := h.zj.te (k := zp z) (v := 0) (b := (decide (rnk (sgn T v) = 3) || (decide (3 < rnk (sgn T v)) && zte z (zp z)))) (by rw [show (decide (rnk (sgn T v) = 3) || (decide (3 < rnk (sgn T v)) && zte z (zp z))) = false from by rw [decide_eq_false h279, decide_eq_false (Int32.not_lt.mpr h288)]; rfl]; rfl)
                  refine wp_aload_n dX8_takesE_306 rfl rfl ?_
                  refine wp_iload dX8_takesE_307 rfl rfl ?_
                  refine wn_callS1d dX8_takesE_309 rRX8_210 (Nat.le_of_ble_eq_true rfl) rfl (Nat.le_of_ble_eq_true rfl) rfl (c8_rank) ?_
                  refine wn_callV1n dX8_takesE_312 rRX8_222 (rcv_of o40 rfl) (Nat.le_of_ble_eq_true rfl) rfl (Nat.le_of_ble_eq_true rfl) rfl (c8_setZ (z := stZ z (zp z) (decide (rnk (sgn T v) = 3) || (decide (3 < rnk (sgn T v)) && zte z (zp z)))) (ls := rnk (sgn T v)) (show zc z + zh z ≤ 96 by omega) hte) (fun s312 hq312 => ?_)
                  have h312 := hq312
                  have hcs := sz_c (z := stZ z (zp z) (decide (rnk (sgn T v) = 3) || (decide (3 < rnk (sgn T v)) && zte z (zp z)))) (ls := rnk (sgn T v))
                  have hcs2 : zc (stZ z (zp z) (decide (rnk (sgn T v) = 3) || (decide (3 < rnk (sgn T v)) && zte z (zp z)))) + zh (stZ z (zp z) (decide (rnk (sgn T v) = 3) || (decide (3 < rnk (sgn T v)) && zte z (zp z)))) = zc z + zh z := rfl
                  refine wp_aload_n dX8_takesE_315 rfl rfl ?_
                  refine wn_getR dX8_takesE_316 fRX8_35 o40 rfl rfl rfl ?_
                  refine wp_aload_n dX8_takesE_319 rfl rfl ?_
                  refine wn_getI dX8_takesE_320 fRX8_207 o40 rfl rfl ?_
                  rw [h312.1.2.2.2.1]
                  refine wp_iload dX8_takesE_323 rfl rfl ?_
                  refine wn_iast dX8_takesE_325 (o41 8 rfl) rfl (nIx rfl (by omega)) (show zh (sz (stZ z (zp z) (decide (rnk (sgn T v) = 3) || (decide (3 < rnk (sgn T v)) && zte z (zp z)))) (rnk (sgn T v))) < 96 by omega) rfl ?_
                  refine wp_aload_n dX8_takesE_326 rfl rfl ?_
                  refine wp_dup dX8_takesE_327 rfl rfl ?_
                  refine wn_getI dX8_takesE_328 fRX8_207 o40 rfl rfl ?_
                  rw [sI_nr (by decide), h312.1.2.2.2.1]
                  refine wp_iconst (v := 1) dX8_takesE_331 (by decide) rfl ?_
                  refine wp_iadd dX8_takesE_332 rfl ?_
                  rw [nI_1]
                  refine wn_putI dX8_takesE_333 fRX8_207 o40 rfl rfl rfl ?_
                  refine wp_iconst (v := 1) dX8_takesE_336 (by decide) rfl ?_
                  refine wp_istore_n (l' := [_, _, _, some _, _]) dX8_takesE_337 rfl rfl ?_
                  refine wp_aload_n dX8_takesE_338 rfl rfl ?_
                  refine wn_callV0n dX8_takesE_339 rRX8_204 (rcv_of o40 rfl) (Nat.le_of_ble_eq_true rfl)  (Nat.le_of_ble_eq_true rfl) rfl (c8_goZ (z := sgZ z (sgn T v)) hn hf ht h6 (h312.psh.z ⟨rfl, rfl, rfl, rfl, rfl, rfl⟩)) (fun s339 hq339 => ?_)
                  have h339 := hq339
                  refine wp_goto (t := 28) dX8_takesE_342 rfl ?_
                  have hsg := hI.sg hw0 (sgn_9 h245)
                  rw [← hsg.2]
                  rw [plp_s hcond (z' := sgZ z (sgn T v)) (by rw [eT, ev]; exact pst_G hw (fun q => h185 q.1) (fun q => q.elim h245 (fun q => h254 q.1)))]
                  exact ih _ _ _ _ (by omega) hgf.2 h339 (hsg.1.le (by omega)) _
                · refine wp_aload_n dX8_takesE_291 rfl rfl ?_
                  refine wn_getR dX8_takesE_292 fRX8_38 o40 rfl rfl rfl ?_
                  refine wp_iload_n dX8_takesE_295 rfl rfl ?_
                  refine wn_zald dX8_takesE_296 o43 rfl (nIx rfl (by omega)) (show zp z < 10 by omega) rfl ?_
                  rw [a6 (zp z) hp8]
                  refine wp_if_eq (t := 304) dX8_takesE_297 rfl rfl (fun h297 => ?_) (fun h297 => ?_)
                  · refine wp_iconst (v := 0) dX8_takesE_304 (by decide) rfl ?_
                    refine wn_zast dX8_takesE_305 o43 rfl (nIx rfl (by omega)) (show zp z < 10 by omega) rfl ?_
                    rw [show vp_nar .boolean 0 = 0 from rfl]
                    have hte := h.zj.te (k := zp z) (v := 0) (b := (decide (rnk (sgn T v) = 3) || (decide (3 < rnk (sgn T v)) && zte z (zp z)))) (by rw [show (decide (rnk (sgn T v) = 3) || (decide (3 < rnk (sgn T v)) && zte z (zp z))) = false from by rw [decide_eq_false h279, Bool.eq_false_iff.mpr (bI_0.mp h297), Bool.and_false]; rfl]; rfl)
                    refine wp_aload_n dX8_takesE_306 rfl rfl ?_
                    refine wp_iload dX8_takesE_307 rfl rfl ?_
                    refine wn_callS1d dX8_takesE_309 rRX8_210 (Nat.le_of_ble_eq_true rfl) rfl (Nat.le_of_ble_eq_true rfl) rfl (c8_rank) ?_
                    refine wn_callV1n dX8_takesE_312 rRX8_222 (rcv_of o40 rfl) (Nat.le_of_ble_eq_true rfl) rfl (Nat.le_of_ble_eq_true rfl) rfl (c8_setZ (z := stZ z (zp z) (decide (rnk (sgn T v) = 3) || (decide (3 < rnk (sgn T v)) && zte z (zp z)))) (ls := rnk (sgn T v)) (show zc z + zh z ≤ 96 by omega) hte) (fun s312 hq312 => ?_)
                    have h312 := hq312
                    have hcs := sz_c (z := stZ z (zp z) (decide (rnk (sgn T v) = 3) || (decide (3 < rnk (sgn T v)) && zte z (zp z)))) (ls := rnk (sgn T v))
                    have hcs2 : zc (stZ z (zp z) (decide (rnk (sgn T v) = 3) || (decide (3 < rnk (sgn T v)) && zte z (zp z)))) + zh (stZ z (zp z) (decide (rnk (sgn T v) = 3) || (decide (3 < rnk (sgn T v)) && zte z (zp z)))) = zc z + zh z := rfl
                    refine wp_aload_n dX8_takesE_315 rfl rfl ?_
                    refine wn_getR dX8_takesE_316 fRX8_35 o40 rfl rfl rfl ?_
                    refine wp_aload_n dX8_takesE_319 rfl rfl ?_
                    refine wn_getI dX8_takesE_320 fRX8_207 o40 rfl rfl ?_
                    rw [h312.1.2.2.2.1]
                    refine wp_iload dX8_takesE_323 rfl rfl ?_
                    refine wn_iast dX8_takesE_325 (o41 8 rfl) rfl (nIx rfl (by omega)) (show zh (sz (stZ z (zp z) (decide (rnk (sgn T v) = 3) || (decide (3 < rnk (sgn T v)) && zte z (zp z)))) (rnk (sgn T v))) < 96 by omega) rfl ?_
                    refine wp_aload_n dX8_takesE_326 rfl rfl ?_
                    refine wp_dup dX8_takesE_327 rfl rfl ?_
                    refine wn_getI dX8_takesE_328 fRX8_207 o40 rfl rfl ?_
                    rw [sI_nr (by decide), h312.1.2.2.2.1]
                    refine wp_iconst (v := 1) dX8_takesE_331 (by decide) rfl ?_
                    refine wp_iadd dX8_takesE_332 rfl ?_
                    rw [nI_1]
                    refine wn_putI dX8_takesE_333 fRX8_207 o40 rfl rfl rfl ?_
                    refine wp_iconst (v := 1) dX8_takesE_336 (by decide) rfl ?_
                    refine wp_istore_n (l' := [_, _, _, some _, _]) dX8_takesE_337 rfl rfl ?_
                    refine wp_aload_n dX8_takesE_338 rfl rfl ?_
                    refine wn_callV0n dX8_takesE_339 rRX8_204 (rcv_of o40 rfl) (Nat.le_of_ble_eq_true rfl)  (Nat.le_of_ble_eq_true rfl) rfl (c8_goZ (z := sgZ z (sgn T v)) hn hf ht h6 (h312.psh.z ⟨rfl, rfl, rfl, rfl, rfl, rfl⟩)) (fun s339 hq339 => ?_)
                    have h339 := hq339
                    refine wp_goto (t := 28) dX8_takesE_342 rfl ?_
                    have hsg := hI.sg hw0 (sgn_9 h245)
                    rw [← hsg.2]
                    rw [plp_s hcond (z' := sgZ z (sgn T v)) (by rw [eT, ev]; exact pst_G hw (fun q => h185 q.1) (fun q => q.elim h245 (fun q => h254 q.1)))]
                    exact ih _ _ _ _ (by omega) hgf.2 h339 (hsg.1.le (by omega)) _
                  · refine wp_iconst (v := 1) dX8_takesE_300 (by decide) rfl ?_
                    refine wp_goto (t := 305) dX8_takesE_301 rfl ?_
                    refine wn_zast dX8_takesE_305 o43 rfl (nIx rfl (by omega)) (show zp z < 10 by omega) rfl ?_
                    rw [show vp_nar .boolean 1 = 1 from rfl]
                    have hte := h.zj.te (k := zp z) (v := 1) (b := (decide (rnk (sgn T v) = 3) || (decide (3 < rnk (sgn T v)) && zte z (zp z)))) (by rw [show (decide (rnk (sgn T v) = 3) || (decide (3 < rnk (sgn T v)) && zte z (zp z))) = true from by rw [decide_eq_false h279, decide_eq_true (Int32.not_le.mp h288), show zte z (zp z) = true from Decidable.not_not.mp (fun q => h297 (bI_0.mpr q))]; rfl]; rfl)
                    refine wp_aload_n dX8_takesE_306 rfl rfl ?_
                    refine wp_iload dX8_takesE_307 rfl rfl ?_
                    refine wn_callS1d dX8_takesE_309 rRX8_210 (Nat.le_of_ble_eq_true rfl) rfl (Nat.le_of_ble_eq_true rfl) rfl (c8_rank) ?_
                    refine wn_callV1n dX8_takesE_312 rRX8_222 (rcv_of o40 rfl) (Nat.le_of_ble_eq_true rfl) rfl (Nat.le_of_ble_eq_true rfl) rfl (c8_setZ (z := stZ z (zp z) (decide (rnk (sgn T v) = 3) || (decide (3 < rnk (sgn T v)) && zte z (zp z)))) (ls := rnk (sgn T v)) (show zc z + zh z ≤ 96 by omega) hte) (fun s312 hq312 => ?_)
                    have h312 := hq312
                    have hcs := sz_c (z := stZ z (zp z) (decide (rnk (sgn T v) = 3) || (decide (3 < rnk (sgn T v)) && zte z (zp z)))) (ls := rnk (sgn T v))
                    have hcs2 : zc (stZ z (zp z) (decide (rnk (sgn T v) = 3) || (decide (3 < rnk (sgn T v)) && zte z (zp z)))) + zh (stZ z (zp z) (decide (rnk (sgn T v) = 3) || (decide (3 < rnk (sgn T v)) && zte z (zp z)))) = zc z + zh z := rfl
                    refine wp_aload_n dX8_takesE_315 rfl rfl ?_
                    refine wn_getR dX8_takesE_316 fRX8_35 o40 rfl rfl rfl ?_
                    refine wp_aload_n dX8_takesE_319 rfl rfl ?_
                    refine wn_getI dX8_takesE_320 fRX8_207 o40 rfl rfl ?_
                    rw [h312.1.2.2.2.1]
                    refine wp_iload dX8_takesE_323 rfl rfl ?_
                    refine wn_iast dX8_takesE_325 (o41 8 rfl) rfl (nIx rfl (by omega)) (show zh (sz (stZ z (zp z) (decide (rnk (sgn T v) = 3) || (decide (3 < rnk (sgn T v)) && zte z (zp z)))) (rnk (sgn T v))) < 96 by omega) rfl ?_
                    refine wp_aload_n dX8_takesE_326 rfl rfl ?_
                    refine wp_dup dX8_takesE_327 rfl rfl ?_
                    refine wn_getI dX8_takesE_328 fRX8_207 o40 rfl rfl ?_
                    rw [sI_nr (by decide), h312.1.2.2.2.1]
                    refine wp_iconst (v := 1) dX8_takesE_331 (by decide) rfl ?_
                    refine wp_iadd dX8_takesE_332 rfl ?_
                    rw [nI_1]
                    refine wn_putI dX8_takesE_333 fRX8_207 o40 rfl rfl rfl ?_
                    refine wp_iconst (v := 1) dX8_takesE_336 (by decide) rfl ?_
                    refine wp_istore_n (l' := [_, _, _, some _, _]) dX8_takesE_337 rfl rfl ?_
                    refine wp_aload_n dX8_takesE_338 rfl rfl ?_
                    refine wn_callV0n dX8_takesE_339 rRX8_204 (rcv_of o40 rfl) (Nat.le_of_ble_eq_true rfl)  (Nat.le_of_ble_eq_true rfl) rfl (c8_goZ (z := sgZ z (sgn T v)) hn hf ht h6 (h312.psh.z ⟨rfl, rfl, rfl, rfl, rfl, rfl⟩)) (fun s339 hq339 => ?_)
                    have h339 := hq339
                    refine wp_goto (t := 28) dX8_takesE_342 rfl ?_
                    have hsg := hI.sg hw0 (sgn_9 h245)
                    rw [← hsg.2]
                    rw [plp_s hcond (z' := sgZ z (sgn T v)) (by rw [eT, ev]; exact pst_G hw (fun q => h185 q.1) (fun q => q.elim h245 (fun q => h254 q.1)))]
                    exact ih _ _ _ _ (by omega) hgf.2 h339 (hsg.1.le (by omega)) _
            · refine wp_aload_n dX8_takesE_257 rfl rfl ?_
              refine wn_getR dX8_takesE_258 fRX8_38 o40 rfl rfl rfl ?_
              refine wp_iload_n dX8_takesE_261 rfl rfl ?_
              refine wn_zald dX8_takesE_262 o43 rfl (nIx rfl (by omega)) (show zp z < 10 by omega) rfl ?_
              rw [a6 (zp z) hp8]
              refine wp_if_eq (t := 268) dX8_takesE_263 rfl rfl (fun h263 => ?_) (fun h263 => ?_)
              · refine wp_aload_n dX8_takesE_268 rfl rfl ?_
                refine wn_getR dX8_takesE_269 fRX8_38 o40 rfl rfl rfl ?_
                refine wp_iload_n dX8_takesE_272 rfl rfl ?_
                refine wp_iload dX8_takesE_273 rfl rfl ?_
                refine wn_callS1d dX8_takesE_275 rRX8_210 (Nat.le_of_ble_eq_true rfl) rfl (Nat.le_of_ble_eq_true rfl) rfl (c8_rank) ?_
                refine wp_iconst (v := 3) dX8_takesE_278 (by decide) rfl ?_
                refine wp_icmp_eq (t := 300) dX8_takesE_279 rfl rfl (fun h279 => ?_) (fun h279 => ?_)
                · refine wp_iconst (v := 1) dX8_takesE_300 (by decide) rfl ?_
                  refine wp_goto (t := 305) dX8_takesE_301 rfl ?_
                  refine wn_zast dX8_takesE_305 o43 rfl (nIx rfl (by omega)) (show zp z < 10 by omega) rfl ?_
                  rw [show vp_nar .boolean 1 = 1 from rfl]
                  have hte := h.zj.te (k := zp z) (v := 1) (b := (decide (rnk (sgn T v) = 3) || (decide (3 < rnk (sgn T v)) && zte z (zp z)))) (by rw [show (decide (rnk (sgn T v) = 3) || (decide (3 < rnk (sgn T v)) && zte z (zp z))) = true from by rw [decide_eq_true h279]; rfl]; rfl)
                  refine wp_aload_n dX8_takesE_306 rfl rfl ?_
                  refine wp_iload dX8_takesE_307 rfl rfl ?_
                  refine wn_callS1d dX8_takesE_309 rRX8_210 (Nat.le_of_ble_eq_true rfl) rfl (Nat.le_of_ble_eq_true rfl) rfl (c8_rank) ?_
                  refine wn_callV1n dX8_takesE_312 rRX8_222 (rcv_of o40 rfl) (Nat.le_of_ble_eq_true rfl) rfl (Nat.le_of_ble_eq_true rfl) rfl (c8_setZ (z := stZ z (zp z) (decide (rnk (sgn T v) = 3) || (decide (3 < rnk (sgn T v)) && zte z (zp z)))) (ls := rnk (sgn T v)) (show zc z + zh z ≤ 96 by omega) hte) (fun s312 hq312 => ?_)
                  have h312 := hq312
                  have hcs := sz_c (z := stZ z (zp z) (decide (rnk (sgn T v) = 3) || (decide (3 < rnk (sgn T v)) && zte z (zp z)))) (ls := rnk (sgn T v))
                  have hcs2 : zc (stZ z (zp z) (decide (rnk (sgn T v) = 3) || (decide (3 < rnk (sgn T v)) && zte z (zp z)))) + zh (stZ z (zp z) (decide (rnk (sgn T v) = 3) || (decide (3 < rnk (sgn T v)) && zte z (zp z)))) = zc z + zh z := rfl
                  refine wp_aload_n dX8_takesE_315 rfl rfl ?_
                  refine wn_getR dX8_takesE_316 fRX8_35 o40 rfl rfl rfl ?_
                  refine wp_aload_n dX8_takesE_319 rfl rfl ?_
                  refine wn_getI dX8_takesE_320 fRX8_207 o40 rfl rfl ?_
                  rw [h312.1.2.2.2.1]
                  refine wp_iload dX8_takesE_323 rfl rfl ?_
                  refine wn_iast dX8_takesE_325 (o41 8 rfl) rfl (nIx rfl (by omega)) (show zh (sz (stZ z (zp z) (decide (rnk (sgn T v) = 3) || (decide (3 < rnk (sgn T v)) && zte z (zp z)))) (rnk (sgn T v))) < 96 by omega) rfl ?_
                  refine wp_aload_n dX8_takesE_326 rfl rfl ?_
                  refine wp_dup dX8_takesE_327 rfl rfl ?_
                  refine wn_getI dX8_takesE_328 fRX8_207 o40 rfl rfl ?_
                  rw [sI_nr (by decide), h312.1.2.2.2.1]
                  refine wp_iconst (v := 1) dX8_takesE_331 (by decide) rfl ?_
                  refine wp_iadd dX8_takesE_332 rfl ?_
                  rw [nI_1]
                  refine wn_putI dX8_takesE_333 fRX8_207 o40 rfl rfl rfl ?_
                  refine wp_iconst (v := 1) dX8_takesE_336 (by decide) rfl ?_
                  refine wp_istore_n (l' := [_, _, _, some _, _]) dX8_takesE_337 rfl rfl ?_
                  refine wp_aload_n dX8_takesE_338 rfl rfl ?_
                  refine wn_callV0n dX8_takesE_339 rRX8_204 (rcv_of o40 rfl) (Nat.le_of_ble_eq_true rfl)  (Nat.le_of_ble_eq_true rfl) rfl (c8_goZ (z := sgZ z (sgn T v)) hn hf ht h6 (h312.psh.z ⟨rfl, rfl, rfl, rfl, rfl, rfl⟩)) (fun s339 hq339 => ?_)
                  have h339 := hq339
                  refine wp_goto (t := 28) dX8_takesE_342 rfl ?_
                  have hsg := hI.sg hw0 (sgn_9 h245)
                  rw [← hsg.2]
                  rw [plp_s hcond (z' := sgZ z (sgn T v)) (by rw [eT, ev]; exact pst_G hw (fun q => h185 q.1) (fun q => q.elim h245 (fun q => absurd q.2 (bI_0.mp h263))))]
                  exact ih _ _ _ _ (by omega) hgf.2 h339 (hsg.1.le (by omega)) _
                · refine wp_iload dX8_takesE_282 rfl rfl ?_
                  refine wn_callS1d dX8_takesE_284 rRX8_210 (Nat.le_of_ble_eq_true rfl) rfl (Nat.le_of_ble_eq_true rfl) rfl (c8_rank) ?_
                  refine wp_iconst (v := 3) dX8_takesE_287 (by decide) rfl ?_
                  refine wp_icmp_le (t := 304) dX8_takesE_288 rfl rfl (fun h288 => ?_) (fun h288 => ?_)
                  · refine wp_iconst (v := 0) dX8_takesE_304 (by decide) rfl ?_
                    refine wn_zast dX8_takesE_305 o43 rfl (nIx rfl (by omega)) (show zp z < 10 by omega) rfl ?_
                    rw [show vp_nar .boolean 0 = 0 from rfl]
                    have hte := h.zj.te (k := zp z) (v := 0) (b := (decide (rnk (sgn T v) = 3) || (decide (3 < rnk (sgn T v)) && zte z (zp z)))) (by rw [show (decide (rnk (sgn T v) = 3) || (decide (3 < rnk (sgn T v)) && zte z (zp z))) = false from by rw [decide_eq_false h279, decide_eq_false (Int32.not_lt.mpr h288)]; rfl]; rfl)
                    refine wp_aload_n dX8_takesE_306 rfl rfl ?_
                    refine wp_iload dX8_takesE_307 rfl rfl ?_
                    refine wn_callS1d dX8_takesE_309 rRX8_210 (Nat.le_of_ble_eq_true rfl) rfl (Nat.le_of_ble_eq_true rfl) rfl (c8_rank) ?_
                    refine wn_callV1n dX8_takesE_312 rRX8_222 (rcv_of o40 rfl) (Nat.le_of_ble_eq_true rfl) rfl (Nat.le_of_ble_eq_true rfl) rfl (c8_setZ (z := stZ z (zp z) (decide (rnk (sgn T v) = 3) || (decide (3 < rnk (sgn T v)) && zte z (zp z)))) (ls := rnk (sgn T v)) (show zc z + zh z ≤ 96 by omega) hte) (fun s312 hq312 => ?_)
                    have h312 := hq312
                    have hcs := sz_c (z := stZ z (zp z) (decide (rnk (sgn T v) = 3) || (decide (3 < rnk (sgn T v)) && zte z (zp z)))) (ls := rnk (sgn T v))
                    have hcs2 : zc (stZ z (zp z) (decide (rnk (sgn T v) = 3) || (decide (3 < rnk (sgn T v)) && zte z (zp z)))) + zh (stZ z (zp z) (decide (rnk (sgn T v) = 3) || (decide (3 < rnk (sgn T v)) && zte z (zp z)))) = zc z + zh z := rfl
                    refine wp_aload_n dX8_takesE_315 rfl rfl ?_
                    refine wn_getR dX8_takesE_316 fRX8_35 o40 rfl rfl rfl ?_
                    refine wp_aload_n dX8_takesE_319 rfl rfl ?_
                    refine wn_getI dX8_takesE_320 fRX8_207 o40 rfl rfl ?_
                    rw [h312.1.2.2.2.1]
                    refine wp_iload dX8_takesE_323 rfl rfl ?_
                    refine wn_iast dX8_takesE_325 (o41 8 rfl) rfl (nIx rfl (by omega)) (show zh (sz (stZ z (zp z) (decide (rnk (sgn T v) = 3) || (decide (3 < rnk (sgn T v)) && zte z (zp z)))) (rnk (sgn T v))) < 96 by omega) rfl ?_
                    refine wp_aload_n dX8_takesE_326 rfl rfl ?_
                    refine wp_dup dX8_takesE_327 rfl rfl ?_
                    refine wn_getI dX8_takesE_328 fRX8_207 o40 rfl rfl ?_
                    rw [sI_nr (by decide), h312.1.2.2.2.1]
                    refine wp_iconst (v := 1) dX8_takesE_331 (by decide) rfl ?_
                    refine wp_iadd dX8_takesE_332 rfl ?_
                    rw [nI_1]
                    refine wn_putI dX8_takesE_333 fRX8_207 o40 rfl rfl rfl ?_
                    refine wp_iconst (v := 1) dX8_takesE_336 (by decide) rfl ?_
                    refine wp_istore_n (l' := [_, _, _, some _, _]) dX8_takesE_337 rfl rfl ?_
                    refine wp_aload_n dX8_takesE_338 rfl rfl ?_
                    refine wn_callV0n dX8_takesE_339 rRX8_204 (rcv_of o40 rfl) (Nat.le_of_ble_eq_true rfl)  (Nat.le_of_ble_eq_true rfl) rfl (c8_goZ (z := sgZ z (sgn T v)) hn hf ht h6 (h312.psh.z ⟨rfl, rfl, rfl, rfl, rfl, rfl⟩)) (fun s339 hq339 => ?_)
                    have h339 := hq339
                    refine wp_goto (t := 28) dX8_takesE_342 rfl ?_
                    have hsg := hI.sg hw0 (sgn_9 h245)
                    rw [← hsg.2]
                    rw [plp_s hcond (z' := sgZ z (sgn T v)) (by rw [eT, ev]; exact pst_G hw (fun q => h185 q.1) (fun q => q.elim h245 (fun q => absurd q.2 (bI_0.mp h263))))]
                    exact ih _ _ _ _ (by omega) hgf.2 h339 (hsg.1.le (by omega)) _
                  · refine wp_aload_n dX8_takesE_291 rfl rfl ?_
                    refine wn_getR dX8_takesE_292 fRX8_38 o40 rfl rfl rfl ?_
                    refine wp_iload_n dX8_takesE_295 rfl rfl ?_
                    refine wn_zald dX8_takesE_296 o43 rfl (nIx rfl (by omega)) (show zp z < 10 by omega) rfl ?_
                    rw [a6 (zp z) hp8]
                    refine wp_if_eq (t := 304) dX8_takesE_297 rfl rfl (fun h297 => ?_) (fun h297 => ?_)
                    · refine wp_iconst (v := 0) dX8_takesE_304 (by decide) rfl ?_
                      refine wn_zast dX8_takesE_305 o43 rfl (nIx rfl (by omega)) (show zp z < 10 by omega) rfl ?_
                      rw [show vp_nar .boolean 0 = 0 from rfl]
                      have hte := h.zj.te (k := zp z) (v := 0) (b := (decide (rnk (sgn T v) = 3) || (decide (3 < rnk (sgn T v)) && zte z (zp z)))) (by rw [show (decide (rnk (sgn T v) = 3) || (decide (3 < rnk (sgn T v)) && zte z (zp z))) = false from by rw [decide_eq_false h279, Bool.eq_false_iff.mpr (bI_0.mp h297), Bool.and_false]; rfl]; rfl)
                      refine wp_aload_n dX8_takesE_306 rfl rfl ?_
                      refine wp_iload dX8_takesE_307 rfl rfl ?_
                      refine wn_callS1d dX8_takesE_309 rRX8_210 (Nat.le_of_ble_eq_true rfl) rfl (Nat.le_of_ble_eq_true rfl) rfl (c8_rank) ?_
                      refine wn_callV1n dX8_takesE_312 rRX8_222 (rcv_of o40 rfl) (Nat.le_of_ble_eq_true rfl) rfl (Nat.le_of_ble_eq_true rfl) rfl (c8_setZ (z := stZ z (zp z) (decide (rnk (sgn T v) = 3) || (decide (3 < rnk (sgn T v)) && zte z (zp z)))) (ls := rnk (sgn T v)) (show zc z + zh z ≤ 96 by omega) hte) (fun s312 hq312 => ?_)
                      have h312 := hq312
                      have hcs := sz_c (z := stZ z (zp z) (decide (rnk (sgn T v) = 3) || (decide (3 < rnk (sgn T v)) && zte z (zp z)))) (ls := rnk (sgn T v))
                      have hcs2 : zc (stZ z (zp z) (decide (rnk (sgn T v) = 3) || (decide (3 < rnk (sgn T v)) && zte z (zp z)))) + zh (stZ z (zp z) (decide (rnk (sgn T v) = 3) || (decide (3 < rnk (sgn T v)) && zte z (zp z)))) = zc z + zh z := rfl
                      refine wp_aload_n dX8_takesE_315 rfl rfl ?_
                      refine wn_getR dX8_takesE_316 fRX8_35 o40 rfl rfl rfl ?_
                      refine wp_aload_n dX8_takesE_319 rfl rfl ?_
                      refine wn_getI dX8_takesE_320 fRX8_207 o40 rfl rfl ?_
                      rw [h312.1.2.2.2.1]
                      refine wp_iload dX8_takesE_323 rfl rfl ?_
                      refine wn_iast dX8_takesE_325 (o41 8 rfl) rfl (nIx rfl (by omega)) (show zh (sz (stZ z (zp z) (decide (rnk (sgn T v) = 3) || (decide (3 < rnk (sgn T v)) && zte z (zp z)))) (rnk (sgn T v))) < 96 by omega) rfl ?_
                      refine wp_aload_n dX8_takesE_326 rfl rfl ?_
                      refine wp_dup dX8_takesE_327 rfl rfl ?_
                      refine wn_getI dX8_takesE_328 fRX8_207 o40 rfl rfl ?_
                      rw [sI_nr (by decide), h312.1.2.2.2.1]
                      refine wp_iconst (v := 1) dX8_takesE_331 (by decide) rfl ?_
                      refine wp_iadd dX8_takesE_332 rfl ?_
                      rw [nI_1]
                      refine wn_putI dX8_takesE_333 fRX8_207 o40 rfl rfl rfl ?_
                      refine wp_iconst (v := 1) dX8_takesE_336 (by decide) rfl ?_
                      refine wp_istore_n (l' := [_, _, _, some _, _]) dX8_takesE_337 rfl rfl ?_
                      refine wp_aload_n dX8_takesE_338 rfl rfl ?_
                      refine wn_callV0n dX8_takesE_339 rRX8_204 (rcv_of o40 rfl) (Nat.le_of_ble_eq_true rfl)  (Nat.le_of_ble_eq_true rfl) rfl (c8_goZ (z := sgZ z (sgn T v)) hn hf ht h6 (h312.psh.z ⟨rfl, rfl, rfl, rfl, rfl, rfl⟩)) (fun s339 hq339 => ?_)
                      have h339 := hq339
                      refine wp_goto (t := 28) dX8_takesE_342 rfl ?_
                      have hsg := hI.sg hw0 (sgn_9 h245)
                      rw [← hsg.2]
                      rw [plp_s hcond (z' := sgZ z (sgn T v)) (by rw [eT, ev]; exact pst_G hw (fun q => h185 q.1) (fun q => q.elim h245 (fun q => absurd q.2 (bI_0.mp h263))))]
                      exact ih _ _ _ _ (by omega) hgf.2 h339 (hsg.1.le (by omega)) _
                    · refine wp_iconst (v := 1) dX8_takesE_300 (by decide) rfl ?_
                      refine wp_goto (t := 305) dX8_takesE_301 rfl ?_
                      refine wn_zast dX8_takesE_305 o43 rfl (nIx rfl (by omega)) (show zp z < 10 by omega) rfl ?_
                      rw [show vp_nar .boolean 1 = 1 from rfl]
                      have hte := h.zj.te (k := zp z) (v := 1) (b := (decide (rnk (sgn T v) = 3) || (decide (3 < rnk (sgn T v)) && zte z (zp z)))) (by rw [show (decide (rnk (sgn T v) = 3) || (decide (3 < rnk (sgn T v)) && zte z (zp z))) = true from by rw [decide_eq_false h279, decide_eq_true (Int32.not_le.mp h288), show zte z (zp z) = true from Decidable.not_not.mp (fun q => h297 (bI_0.mpr q))]; rfl]; rfl)
                      refine wp_aload_n dX8_takesE_306 rfl rfl ?_
                      refine wp_iload dX8_takesE_307 rfl rfl ?_
                      refine wn_callS1d dX8_takesE_309 rRX8_210 (Nat.le_of_ble_eq_true rfl) rfl (Nat.le_of_ble_eq_true rfl) rfl (c8_rank) ?_
                      refine wn_callV1n dX8_takesE_312 rRX8_222 (rcv_of o40 rfl) (Nat.le_of_ble_eq_true rfl) rfl (Nat.le_of_ble_eq_true rfl) rfl (c8_setZ (z := stZ z (zp z) (decide (rnk (sgn T v) = 3) || (decide (3 < rnk (sgn T v)) && zte z (zp z)))) (ls := rnk (sgn T v)) (show zc z + zh z ≤ 96 by omega) hte) (fun s312 hq312 => ?_)
                      have h312 := hq312
                      have hcs := sz_c (z := stZ z (zp z) (decide (rnk (sgn T v) = 3) || (decide (3 < rnk (sgn T v)) && zte z (zp z)))) (ls := rnk (sgn T v))
                      have hcs2 : zc (stZ z (zp z) (decide (rnk (sgn T v) = 3) || (decide (3 < rnk (sgn T v)) && zte z (zp z)))) + zh (stZ z (zp z) (decide (rnk (sgn T v) = 3) || (decide (3 < rnk (sgn T v)) && zte z (zp z)))) = zc z + zh z := rfl
                      refine wp_aload_n dX8_takesE_315 rfl rfl ?_
                      refine wn_getR dX8_takesE_316 fRX8_35 o40 rfl rfl rfl ?_
                      refine wp_aload_n dX8_takesE_319 rfl rfl ?_
                      refine wn_getI dX8_takesE_320 fRX8_207 o40 rfl rfl ?_
                      rw [h312.1.2.2.2.1]
                      refine wp_iload dX8_takesE_323 rfl rfl ?_
                      refine wn_iast dX8_takesE_325 (o41 8 rfl) rfl (nIx rfl (by omega)) (show zh (sz (stZ z (zp z) (decide (rnk (sgn T v) = 3) || (decide (3 < rnk (sgn T v)) && zte z (zp z)))) (rnk (sgn T v))) < 96 by omega) rfl ?_
                      refine wp_aload_n dX8_takesE_326 rfl rfl ?_
                      refine wp_dup dX8_takesE_327 rfl rfl ?_
                      refine wn_getI dX8_takesE_328 fRX8_207 o40 rfl rfl ?_
                      rw [sI_nr (by decide), h312.1.2.2.2.1]
                      refine wp_iconst (v := 1) dX8_takesE_331 (by decide) rfl ?_
                      refine wp_iadd dX8_takesE_332 rfl ?_
                      rw [nI_1]
                      refine wn_putI dX8_takesE_333 fRX8_207 o40 rfl rfl rfl ?_
                      refine wp_iconst (v := 1) dX8_takesE_336 (by decide) rfl ?_
                      refine wp_istore_n (l' := [_, _, _, some _, _]) dX8_takesE_337 rfl rfl ?_
                      refine wp_aload_n dX8_takesE_338 rfl rfl ?_
                      refine wn_callV0n dX8_takesE_339 rRX8_204 (rcv_of o40 rfl) (Nat.le_of_ble_eq_true rfl)  (Nat.le_of_ble_eq_true rfl) rfl (c8_goZ (z := sgZ z (sgn T v)) hn hf ht h6 (h312.psh.z ⟨rfl, rfl, rfl, rfl, rfl, rfl⟩)) (fun s339 hq339 => ?_)
                      have h339 := hq339
                      refine wp_goto (t := 28) dX8_takesE_342 rfl ?_
                      have hsg := hI.sg hw0 (sgn_9 h245)
                      rw [← hsg.2]
                      rw [plp_s hcond (z' := sgZ z (sgn T v)) (by rw [eT, ev]; exact pst_G hw (fun q => h185 q.1) (fun q => q.elim h245 (fun q => absurd q.2 (bI_0.mp h263))))]
                      exact ih _ _ _ _ (by omega) hgf.2 h339 (hsg.1.le (by omega)) _
              · refine wp_iconst (v := 0) dX8_takesE_266 (by decide) rfl ?_
                refine wp_iret dX8_takesE_267 rfl (by decide) ?_
                refine ⟨_, _, rfl, rfl, ?_⟩
                rw [plp_n hcond (by rw [eT, ev]; exact pst_F hw (fun q => h185 q.1) (Or.inr ⟨h254, Decidable.not_not.mp (fun q => h263 (bI_0.mpr q))⟩))]
                exact ⟨rfl, h.1, h.2.1.1, h.2.2⟩
        · refine wp_aload_n dX8_takesE_188 rfl rfl ?_
          refine wn_getI dX8_takesE_189 fRX8_195 o40 rfl rfl ?_
          rw [e10]
          refine wp_bipush (v := 41) dX8_takesE_192 (by decide) rfl ?_
          refine wp_icmp_ne (t := 237) dX8_takesE_194 rfl rfl (fun h194 => ?_) (fun h194 => ?_)
          · refine wp_aload_n dX8_takesE_237 rfl rfl ?_
            refine wn_callV0d dX8_takesE_238 rRX8_232 (rcv_of o40 rfl) (Nat.le_of_ble_eq_true rfl)  (Nat.le_of_ble_eq_true rfl) rfl (c8_signHere) ?_
            rw [e9, e10]
            refine wp_istore (l' := [_, _, _, _, some _]) dX8_takesE_241 rfl rfl ?_
            refine wp_iload dX8_takesE_243 rfl rfl ?_
            refine wp_if_eq (t := 266) dX8_takesE_245 rfl rfl (fun h245 => ?_) (fun h245 => ?_)
            · refine wp_iconst (v := 0) dX8_takesE_266 (by decide) rfl ?_
              refine wp_iret dX8_takesE_267 rfl (by decide) ?_
              refine ⟨_, _, rfl, rfl, ?_⟩
              rw [plp_n hcond (by rw [eT, ev]; exact pst_F hw (fun q => h194 q.2.1) (Or.inl h245))]
              exact ⟨rfl, h.1, h.2.1.1, h.2.2⟩
            · refine wp_iload dX8_takesE_248 rfl rfl ?_
              refine wn_callS1d dX8_takesE_250 rRX8_210 (Nat.le_of_ble_eq_true rfl) rfl (Nat.le_of_ble_eq_true rfl) rfl (c8_rank) ?_
              refine wp_iconst (v := 3) dX8_takesE_253 (by decide) rfl ?_
              refine wp_icmp_ne (t := 268) dX8_takesE_254 rfl rfl (fun h254 => ?_) (fun h254 => ?_)
              · refine wp_aload_n dX8_takesE_268 rfl rfl ?_
                refine wn_getR dX8_takesE_269 fRX8_38 o40 rfl rfl rfl ?_
                refine wp_iload_n dX8_takesE_272 rfl rfl ?_
                refine wp_iload dX8_takesE_273 rfl rfl ?_
                refine wn_callS1d dX8_takesE_275 rRX8_210 (Nat.le_of_ble_eq_true rfl) rfl (Nat.le_of_ble_eq_true rfl) rfl (c8_rank) ?_
                refine wp_iconst (v := 3) dX8_takesE_278 (by decide) rfl ?_
                refine wp_icmp_eq (t := 300) dX8_takesE_279 rfl rfl (fun h279 => ?_) (fun h279 => ?_)
                · refine wp_iconst (v := 1) dX8_takesE_300 (by decide) rfl ?_
                  refine wp_goto (t := 305) dX8_takesE_301 rfl ?_
                  refine wn_zast dX8_takesE_305 o43 rfl (nIx rfl (by omega)) (show zp z < 10 by omega) rfl ?_
                  rw [show vp_nar .boolean 1 = 1 from rfl]
                  have hte := h.zj.te (k := zp z) (v := 1) (b := (decide (rnk (sgn T v) = 3) || (decide (3 < rnk (sgn T v)) && zte z (zp z)))) (by rw [show (decide (rnk (sgn T v) = 3) || (decide (3 < rnk (sgn T v)) && zte z (zp z))) = true from by rw [decide_eq_true h279]; rfl]; rfl)
                  refine wp_aload_n dX8_takesE_306 rfl rfl ?_
                  refine wp_iload dX8_takesE_307 rfl rfl ?_
                  refine wn_callS1d dX8_takesE_309 rRX8_210 (Nat.le_of_ble_eq_true rfl) rfl (Nat.le_of_ble_eq_true rfl) rfl (c8_rank) ?_
                  refine wn_callV1n dX8_takesE_312 rRX8_222 (rcv_of o40 rfl) (Nat.le_of_ble_eq_true rfl) rfl (Nat.le_of_ble_eq_true rfl) rfl (c8_setZ (z := stZ z (zp z) (decide (rnk (sgn T v) = 3) || (decide (3 < rnk (sgn T v)) && zte z (zp z)))) (ls := rnk (sgn T v)) (show zc z + zh z ≤ 96 by omega) hte) (fun s312 hq312 => ?_)
                  have h312 := hq312
                  have hcs := sz_c (z := stZ z (zp z) (decide (rnk (sgn T v) = 3) || (decide (3 < rnk (sgn T v)) && zte z (zp z)))) (ls := rnk (sgn T v))
                  have hcs2 : zc (stZ z (zp z) (decide (rnk (sgn T v) = 3) || (decide (3 < rnk (sgn T v)) && zte z (zp z)))) + zh (stZ z (zp z) (decide (rnk (sgn T v) = 3) || (decide (3 < rnk (sgn T v)) && zte z (zp z)))) = zc z + zh z := rfl
                  refine wp_aload_n dX8_takesE_315 rfl rfl ?_
                  refine wn_getR dX8_takesE_316 fRX8_35 o40 rfl rfl rfl ?_
                  refine wp_aload_n dX8_takesE_319 rfl rfl ?_
                  refine wn_getI dX8_takesE_320 fRX8_207 o40 rfl rfl ?_
                  rw [h312.1.2.2.2.1]
                  refine wp_iload dX8_takesE_323 rfl rfl ?_
                  refine wn_iast dX8_takesE_325 (o41 8 rfl) rfl (nIx rfl (by omega)) (show zh (sz (stZ z (zp z) (decide (rnk (sgn T v) = 3) || (decide (3 < rnk (sgn T v)) && zte z (zp z)))) (rnk (sgn T v))) < 96 by omega) rfl ?_
                  refine wp_aload_n dX8_takesE_326 rfl rfl ?_
                  refine wp_dup dX8_takesE_327 rfl rfl ?_
                  refine wn_getI dX8_takesE_328 fRX8_207 o40 rfl rfl ?_
                  rw [sI_nr (by decide), h312.1.2.2.2.1]
                  refine wp_iconst (v := 1) dX8_takesE_331 (by decide) rfl ?_
                  refine wp_iadd dX8_takesE_332 rfl ?_
                  rw [nI_1]
                  refine wn_putI dX8_takesE_333 fRX8_207 o40 rfl rfl rfl ?_
                  refine wp_iconst (v := 1) dX8_takesE_336 (by decide) rfl ?_
                  refine wp_istore_n (l' := [_, _, _, some _, _]) dX8_takesE_337 rfl rfl ?_
                  refine wp_aload_n dX8_takesE_338 rfl rfl ?_
                  refine wn_callV0n dX8_takesE_339 rRX8_204 (rcv_of o40 rfl) (Nat.le_of_ble_eq_true rfl)  (Nat.le_of_ble_eq_true rfl) rfl (c8_goZ (z := sgZ z (sgn T v)) hn hf ht h6 (h312.psh.z ⟨rfl, rfl, rfl, rfl, rfl, rfl⟩)) (fun s339 hq339 => ?_)
                  have h339 := hq339
                  refine wp_goto (t := 28) dX8_takesE_342 rfl ?_
                  have hsg := hI.sg hw0 (sgn_9 h245)
                  rw [← hsg.2]
                  rw [plp_s hcond (z' := sgZ z (sgn T v)) (by rw [eT, ev]; exact pst_G hw (fun q => h194 q.2.1) (fun q => q.elim h245 (fun q => h254 q.1)))]
                  exact ih _ _ _ _ (by omega) hgf.2 h339 (hsg.1.le (by omega)) _
                · refine wp_iload dX8_takesE_282 rfl rfl ?_
                  refine wn_callS1d dX8_takesE_284 rRX8_210 (Nat.le_of_ble_eq_true rfl) rfl (Nat.le_of_ble_eq_true rfl) rfl (c8_rank) ?_
                  refine wp_iconst (v := 3) dX8_takesE_287 (by decide) rfl ?_
                  refine wp_icmp_le (t := 304) dX8_takesE_288 rfl rfl (fun h288 => ?_) (fun h288 => ?_)
                  · refine wp_iconst (v := 0) dX8_takesE_304 (by decide) rfl ?_
                    refine wn_zast dX8_takesE_305 o43 rfl (nIx rfl (by omega)) (show zp z < 10 by omega) rfl ?_
                    rw [show vp_nar .boolean 0 = 0 from rfl]
                    have hte := h.zj.te (k := zp z) (v := 0) (b := (decide (rnk (sgn T v) = 3) || (decide (3 < rnk (sgn T v)) && zte z (zp z)))) (by rw [show (decide (rnk (sgn T v) = 3) || (decide (3 < rnk (sgn T v)) && zte z (zp z))) = false from by rw [decide_eq_false h279, decide_eq_false (Int32.not_lt.mpr h288)]; rfl]; rfl)
                    refine wp_aload_n dX8_takesE_306 rfl rfl ?_
                    refine wp_iload dX8_takesE_307 rfl rfl ?_
                    refine wn_callS1d dX8_takesE_309 rRX8_210 (Nat.le_of_ble_eq_true rfl) rfl (Nat.le_of_ble_eq_true rfl) rfl (c8_rank) ?_
                    refine wn_callV1n dX8_takesE_312 rRX8_222 (rcv_of o40 rfl) (Nat.le_of_ble_eq_true rfl) rfl (Nat.le_of_ble_eq_true rfl) rfl (c8_setZ (z := stZ z (zp z) (decide (rnk (sgn T v) = 3) || (decide (3 < rnk (sgn T v)) && zte z (zp z)))) (ls := rnk (sgn T v)) (show zc z + zh z ≤ 96 by omega) hte) (fun s312 hq312 => ?_)
                    have h312 := hq312
                    have hcs := sz_c (z := stZ z (zp z) (decide (rnk (sgn T v) = 3) || (decide (3 < rnk (sgn T v)) && zte z (zp z)))) (ls := rnk (sgn T v))
                    have hcs2 : zc (stZ z (zp z) (decide (rnk (sgn T v) = 3) || (decide (3 < rnk (sgn T v)) && zte z (zp z)))) + zh (stZ z (zp z) (decide (rnk (sgn T v) = 3) || (decide (3 < rnk (sgn T v)) && zte z (zp z)))) = zc z + zh z := rfl
                    refine wp_aload_n dX8_takesE_315 rfl rfl ?_
                    refine wn_getR dX8_takesE_316 fRX8_35 o40 rfl rfl rfl ?_
                    refine wp_aload_n dX8_takesE_319 rfl rfl ?_
                    refine wn_getI dX8_takesE_320 fRX8_207 o40 rfl rfl ?_
                    rw [h312.1.2.2.2.1]
                    refine wp_iload dX8_takesE_323 rfl rfl ?_
                    refine wn_iast dX8_takesE_325 (o41 8 rfl) rfl (nIx rfl (by omega)) (show zh (sz (stZ z (zp z) (decide (rnk (sgn T v) = 3) || (decide (3 < rnk (sgn T v)) && zte z (zp z)))) (rnk (sgn T v))) < 96 by omega) rfl ?_
                    refine wp_aload_n dX8_takesE_326 rfl rfl ?_
                    refine wp_dup dX8_takesE_327 rfl rfl ?_
                    refine wn_getI dX8_takesE_328 fRX8_207 o40 rfl rfl ?_
                    rw [sI_nr (by decide), h312.1.2.2.2.1]
                    refine wp_iconst (v := 1) dX8_takesE_331 (by decide) rfl ?_
                    refine wp_iadd dX8_takesE_332 rfl ?_
                    rw [nI_1]
                    refine wn_putI dX8_takesE_333 fRX8_207 o40 rfl rfl rfl ?_
                    refine wp_iconst (v := 1) dX8_takesE_336 (by decide) rfl ?_
                    refine wp_istore_n (l' := [_, _, _, some _, _]) dX8_takesE_337 rfl rfl ?_
                    refine wp_aload_n dX8_takesE_338 rfl rfl ?_
                    refine wn_callV0n dX8_takesE_339 rRX8_204 (rcv_of o40 rfl) (Nat.le_of_ble_eq_true rfl)  (Nat.le_of_ble_eq_true rfl) rfl (c8_goZ (z := sgZ z (sgn T v)) hn hf ht h6 (h312.psh.z ⟨rfl, rfl, rfl, rfl, rfl, rfl⟩)) (fun s339 hq339 => ?_)
                    have h339 := hq339
                    refine wp_goto (t := 28) dX8_takesE_342 rfl ?_
                    have hsg := hI.sg hw0 (sgn_9 h245)
                    rw [← hsg.2]
                    rw [plp_s hcond (z' := sgZ z (sgn T v)) (by rw [eT, ev]; exact pst_G hw (fun q => h194 q.2.1) (fun q => q.elim h245 (fun q => h254 q.1)))]
                    exact ih _ _ _ _ (by omega) hgf.2 h339 (hsg.1.le (by omega)) _
                  · refine wp_aload_n dX8_takesE_291 rfl rfl ?_
                    refine wn_getR dX8_takesE_292 fRX8_38 o40 rfl rfl rfl ?_
                    refine wp_iload_n dX8_takesE_295 rfl rfl ?_
                    refine wn_zald dX8_takesE_296 o43 rfl (nIx rfl (by omega)) (show zp z < 10 by omega) rfl ?_
                    rw [a6 (zp z) hp8]
                    refine wp_if_eq (t := 304) dX8_takesE_297 rfl rfl (fun h297 => ?_) (fun h297 => ?_)
                    · refine wp_iconst (v := 0) dX8_takesE_304 (by decide) rfl ?_
                      refine wn_zast dX8_takesE_305 o43 rfl (nIx rfl (by omega)) (show zp z < 10 by omega) rfl ?_
                      rw [show vp_nar .boolean 0 = 0 from rfl]
                      have hte := h.zj.te (k := zp z) (v := 0) (b := (decide (rnk (sgn T v) = 3) || (decide (3 < rnk (sgn T v)) && zte z (zp z)))) (by rw [show (decide (rnk (sgn T v) = 3) || (decide (3 < rnk (sgn T v)) && zte z (zp z))) = false from by rw [decide_eq_false h279, Bool.eq_false_iff.mpr (bI_0.mp h297), Bool.and_false]; rfl]; rfl)
                      refine wp_aload_n dX8_takesE_306 rfl rfl ?_
                      refine wp_iload dX8_takesE_307 rfl rfl ?_
                      refine wn_callS1d dX8_takesE_309 rRX8_210 (Nat.le_of_ble_eq_true rfl) rfl (Nat.le_of_ble_eq_true rfl) rfl (c8_rank) ?_
                      refine wn_callV1n dX8_takesE_312 rRX8_222 (rcv_of o40 rfl) (Nat.le_of_ble_eq_true rfl) rfl (Nat.le_of_ble_eq_true rfl) rfl (c8_setZ (z := stZ z (zp z) (decide (rnk (sgn T v) = 3) || (decide (3 < rnk (sgn T v)) && zte z (zp z)))) (ls := rnk (sgn T v)) (show zc z + zh z ≤ 96 by omega) hte) (fun s312 hq312 => ?_)
                      have h312 := hq312
                      have hcs := sz_c (z := stZ z (zp z) (decide (rnk (sgn T v) = 3) || (decide (3 < rnk (sgn T v)) && zte z (zp z)))) (ls := rnk (sgn T v))
                      have hcs2 : zc (stZ z (zp z) (decide (rnk (sgn T v) = 3) || (decide (3 < rnk (sgn T v)) && zte z (zp z)))) + zh (stZ z (zp z) (decide (rnk (sgn T v) = 3) || (decide (3 < rnk (sgn T v)) && zte z (zp z)))) = zc z + zh z := rfl
                      refine wp_aload_n dX8_takesE_315 rfl rfl ?_
                      refine wn_getR dX8_takesE_316 fRX8_35 o40 rfl rfl rfl ?_
                      refine wp_aload_n dX8_takesE_319 rfl rfl ?_
                      refine wn_getI dX8_takesE_320 fRX8_207 o40 rfl rfl ?_
                      rw [h312.1.2.2.2.1]
                      refine wp_iload dX8_takesE_323 rfl rfl ?_
                      refine wn_iast dX8_takesE_325 (o41 8 rfl) rfl (nIx rfl (by omega)) (show zh (sz (stZ z (zp z) (decide (rnk (sgn T v) = 3) || (decide (3 < rnk (sgn T v)) && zte z (zp z)))) (rnk (sgn T v))) < 96 by omega) rfl ?_
                      refine wp_aload_n dX8_takesE_326 rfl rfl ?_
                      refine wp_dup dX8_takesE_327 rfl rfl ?_
                      refine wn_getI dX8_takesE_328 fRX8_207 o40 rfl rfl ?_
                      rw [sI_nr (by decide), h312.1.2.2.2.1]
                      refine wp_iconst (v := 1) dX8_takesE_331 (by decide) rfl ?_
                      refine wp_iadd dX8_takesE_332 rfl ?_
                      rw [nI_1]
                      refine wn_putI dX8_takesE_333 fRX8_207 o40 rfl rfl rfl ?_
                      refine wp_iconst (v := 1) dX8_takesE_336 (by decide) rfl ?_
                      refine wp_istore_n (l' := [_, _, _, some _, _]) dX8_takesE_337 rfl rfl ?_
                      refine wp_aload_n dX8_takesE_338 rfl rfl ?_
                      refine wn_callV0n dX8_takesE_339 rRX8_204 (rcv_of o40 rfl) (Nat.le_of_ble_eq_true rfl)  (Nat.le_of_ble_eq_true rfl) rfl (c8_goZ (z := sgZ z (sgn T v)) hn hf ht h6 (h312.psh.z ⟨rfl, rfl, rfl, rfl, rfl, rfl⟩)) (fun s339 hq339 => ?_)
                      have h339 := hq339
                      refine wp_goto (t := 28) dX8_takesE_342 rfl ?_
                      have hsg := hI.sg hw0 (sgn_9 h245)
                      rw [← hsg.2]
                      rw [plp_s hcond (z' := sgZ z (sgn T v)) (by rw [eT, ev]; exact pst_G hw (fun q => h194 q.2.1) (fun q => q.elim h245 (fun q => h254 q.1)))]
                      exact ih _ _ _ _ (by omega) hgf.2 h339 (hsg.1.le (by omega)) _
                    · refine wp_iconst (v := 1) dX8_takesE_300 (by decide) rfl ?_
                      refine wp_goto (t := 305) dX8_takesE_301 rfl ?_
                      refine wn_zast dX8_takesE_305 o43 rfl (nIx rfl (by omega)) (show zp z < 10 by omega) rfl ?_
                      rw [show vp_nar .boolean 1 = 1 from rfl]
                      have hte := h.zj.te (k := zp z) (v := 1) (b := (decide (rnk (sgn T v) = 3) || (decide (3 < rnk (sgn T v)) && zte z (zp z)))) (by rw [show (decide (rnk (sgn T v) = 3) || (decide (3 < rnk (sgn T v)) && zte z (zp z))) = true from by rw [decide_eq_false h279, decide_eq_true (Int32.not_le.mp h288), show zte z (zp z) = true from Decidable.not_not.mp (fun q => h297 (bI_0.mpr q))]; rfl]; rfl)
                      refine wp_aload_n dX8_takesE_306 rfl rfl ?_
                      refine wp_iload dX8_takesE_307 rfl rfl ?_
                      refine wn_callS1d dX8_takesE_309 rRX8_210 (Nat.le_of_ble_eq_true rfl) rfl (Nat.le_of_ble_eq_true rfl) rfl (c8_rank) ?_
                      refine wn_callV1n dX8_takesE_312 rRX8_222 (rcv_of o40 rfl) (Nat.le_of_ble_eq_true rfl) rfl (Nat.le_of_ble_eq_true rfl) rfl (c8_setZ (z := stZ z (zp z) (decide (rnk (sgn T v) = 3) || (decide (3 < rnk (sgn T v)) && zte z (zp z)))) (ls := rnk (sgn T v)) (show zc z + zh z ≤ 96 by omega) hte) (fun s312 hq312 => ?_)
                      have h312 := hq312
                      have hcs := sz_c (z := stZ z (zp z) (decide (rnk (sgn T v) = 3) || (decide (3 < rnk (sgn T v)) && zte z (zp z)))) (ls := rnk (sgn T v))
                      have hcs2 : zc (stZ z (zp z) (decide (rnk (sgn T v) = 3) || (decide (3 < rnk (sgn T v)) && zte z (zp z)))) + zh (stZ z (zp z) (decide (rnk (sgn T v) = 3) || (decide (3 < rnk (sgn T v)) && zte z (zp z)))) = zc z + zh z := rfl
                      refine wp_aload_n dX8_takesE_315 rfl rfl ?_
                      refine wn_getR dX8_takesE_316 fRX8_35 o40 rfl rfl rfl ?_
                      refine wp_aload_n dX8_takesE_319 rfl rfl ?_
                      refine wn_getI dX8_takesE_320 fRX8_207 o40 rfl rfl ?_
                      rw [h312.1.2.2.2.1]
                      refine wp_iload dX8_takesE_323 rfl rfl ?_
                      refine wn_iast dX8_takesE_325 (o41 8 rfl) rfl (nIx rfl (by omega)) (show zh (sz (stZ z (zp z) (decide (rnk (sgn T v) = 3) || (decide (3 < rnk (sgn T v)) && zte z (zp z)))) (rnk (sgn T v))) < 96 by omega) rfl ?_
                      refine wp_aload_n dX8_takesE_326 rfl rfl ?_
                      refine wp_dup dX8_takesE_327 rfl rfl ?_
                      refine wn_getI dX8_takesE_328 fRX8_207 o40 rfl rfl ?_
                      rw [sI_nr (by decide), h312.1.2.2.2.1]
                      refine wp_iconst (v := 1) dX8_takesE_331 (by decide) rfl ?_
                      refine wp_iadd dX8_takesE_332 rfl ?_
                      rw [nI_1]
                      refine wn_putI dX8_takesE_333 fRX8_207 o40 rfl rfl rfl ?_
                      refine wp_iconst (v := 1) dX8_takesE_336 (by decide) rfl ?_
                      refine wp_istore_n (l' := [_, _, _, some _, _]) dX8_takesE_337 rfl rfl ?_
                      refine wp_aload_n dX8_takesE_338 rfl rfl ?_
                      refine wn_callV0n dX8_takesE_339 rRX8_204 (rcv_of o40 rfl) (Nat.le_of_ble_eq_true rfl)  (Nat.le_of_ble_eq_true rfl) rfl (c8_goZ (z := sgZ z (sgn T v)) hn hf ht h6 (h312.psh.z ⟨rfl, rfl, rfl, rfl, rfl, rfl⟩)) (fun s339 hq339 => ?_)
                      have h339 := hq339
                      refine wp_goto (t := 28) dX8_takesE_342 rfl ?_
                      have hsg := hI.sg hw0 (sgn_9 h245)
                      rw [← hsg.2]
                      rw [plp_s hcond (z' := sgZ z (sgn T v)) (by rw [eT, ev]; exact pst_G hw (fun q => h194 q.2.1) (fun q => q.elim h245 (fun q => h254 q.1)))]
                      exact ih _ _ _ _ (by omega) hgf.2 h339 (hsg.1.le (by omega)) _
              · refine wp_aload_n dX8_takesE_257 rfl rfl ?_
                refine wn_getR dX8_takesE_258 fRX8_38 o40 rfl rfl rfl ?_
                refine wp_iload_n dX8_takesE_261 rfl rfl ?_
                refine wn_zald dX8_takesE_262 o43 rfl (nIx rfl (by omega)) (show zp z < 10 by omega) rfl ?_
                rw [a6 (zp z) hp8]
                refine wp_if_eq (t := 268) dX8_takesE_263 rfl rfl (fun h263 => ?_) (fun h263 => ?_)
                · refine wp_aload_n dX8_takesE_268 rfl rfl ?_
                  refine wn_getR dX8_takesE_269 fRX8_38 o40 rfl rfl rfl ?_
                  refine wp_iload_n dX8_takesE_272 rfl rfl ?_
                  refine wp_iload dX8_takesE_273 rfl rfl ?_
                  refine wn_callS1d dX8_takesE_275 rRX8_210 (Nat.le_of_ble_eq_true rfl) rfl (Nat.le_of_ble_eq_true rfl) rfl (c8_rank) ?_
                  refine wp_iconst (v := 3) dX8_takesE_278 (by decide) rfl ?_
                  refine wp_icmp_eq (t := 300) dX8_takesE_279 rfl rfl (fun h279 => ?_) (fun h279 => ?_)
                  · refine wp_iconst (v := 1) dX8_takesE_300 (by decide) rfl ?_
                    refine wp_goto (t := 305) dX8_takesE_301 rfl ?_
                    refine wn_zast dX8_takesE_305 o43 rfl (nIx rfl (by omega)) (show zp z < 10 by omega) rfl ?_
                    rw [show vp_nar .boolean 1 = 1 from rfl]
                    have hte := h.zj.te (k := zp z) (v := 1) (b := (decide (rnk (sgn T v) = 3) || (decide (3 < rnk (sgn T v)) && zte z (zp z)))) (by rw [show (decide (rnk (sgn T v) = 3) || (decide (3 < rnk (sgn T v)) && zte z (zp z))) = true from by rw [decide_eq_true h279]; rfl]; rfl)
                    refine wp_aload_n dX8_takesE_306 rfl rfl ?_
                    refine wp_iload dX8_takesE_307 rfl rfl ?_
                    refine wn_callS1d dX8_takesE_309 rRX8_210 (Nat.le_of_ble_eq_true rfl) rfl (Nat.le_of_ble_eq_true rfl) rfl (c8_rank) ?_
                    refine wn_callV1n dX8_takesE_312 rRX8_222 (rcv_of o40 rfl) (Nat.le_of_ble_eq_true rfl) rfl (Nat.le_of_ble_eq_true rfl) rfl (c8_setZ (z := stZ z (zp z) (decide (rnk (sgn T v) = 3) || (decide (3 < rnk (sgn T v)) && zte z (zp z)))) (ls := rnk (sgn T v)) (show zc z + zh z ≤ 96 by omega) hte) (fun s312 hq312 => ?_)
                    have h312 := hq312
                    have hcs := sz_c (z := stZ z (zp z) (decide (rnk (sgn T v) = 3) || (decide (3 < rnk (sgn T v)) && zte z (zp z)))) (ls := rnk (sgn T v))
                    have hcs2 : zc (stZ z (zp z) (decide (rnk (sgn T v) = 3) || (decide (3 < rnk (sgn T v)) && zte z (zp z)))) + zh (stZ z (zp z) (decide (rnk (sgn T v) = 3) || (decide (3 < rnk (sgn T v)) && zte z (zp z)))) = zc z + zh z := rfl
                    refine wp_aload_n dX8_takesE_315 rfl rfl ?_
                    refine wn_getR dX8_takesE_316 fRX8_35 o40 rfl rfl rfl ?_
                    refine wp_aload_n dX8_takesE_319 rfl rfl ?_
                    refine wn_getI dX8_takesE_320 fRX8_207 o40 rfl rfl ?_
                    rw [h312.1.2.2.2.1]
                    refine wp_iload dX8_takesE_323 rfl rfl ?_
                    refine wn_iast dX8_takesE_325 (o41 8 rfl) rfl (nIx rfl (by omega)) (show zh (sz (stZ z (zp z) (decide (rnk (sgn T v) = 3) || (decide (3 < rnk (sgn T v)) && zte z (zp z)))) (rnk (sgn T v))) < 96 by omega) rfl ?_
                    refine wp_aload_n dX8_takesE_326 rfl rfl ?_
                    refine wp_dup dX8_takesE_327 rfl rfl ?_
                    refine wn_getI dX8_takesE_328 fRX8_207 o40 rfl rfl ?_
                    rw [sI_nr (by decide), h312.1.2.2.2.1]
                    refine wp_iconst (v := 1) dX8_takesE_331 (by decide) rfl ?_
                    refine wp_iadd dX8_takesE_332 rfl ?_
                    rw [nI_1]
                    refine wn_putI dX8_takesE_333 fRX8_207 o40 rfl rfl rfl ?_
                    refine wp_iconst (v := 1) dX8_takesE_336 (by decide) rfl ?_
                    refine wp_istore_n (l' := [_, _, _, some _, _]) dX8_takesE_337 rfl rfl ?_
                    refine wp_aload_n dX8_takesE_338 rfl rfl ?_
                    refine wn_callV0n dX8_takesE_339 rRX8_204 (rcv_of o40 rfl) (Nat.le_of_ble_eq_true rfl)  (Nat.le_of_ble_eq_true rfl) rfl (c8_goZ (z := sgZ z (sgn T v)) hn hf ht h6 (h312.psh.z ⟨rfl, rfl, rfl, rfl, rfl, rfl⟩)) (fun s339 hq339 => ?_)
                    have h339 := hq339
                    refine wp_goto (t := 28) dX8_takesE_342 rfl ?_
                    have hsg := hI.sg hw0 (sgn_9 h245)
                    rw [← hsg.2]
                    rw [plp_s hcond (z' := sgZ z (sgn T v)) (by rw [eT, ev]; exact pst_G hw (fun q => h194 q.2.1) (fun q => q.elim h245 (fun q => absurd q.2 (bI_0.mp h263))))]
                    exact ih _ _ _ _ (by omega) hgf.2 h339 (hsg.1.le (by omega)) _
                  · refine wp_iload dX8_takesE_282 rfl rfl ?_
                    refine wn_callS1d dX8_takesE_284 rRX8_210 (Nat.le_of_ble_eq_true rfl) rfl (Nat.le_of_ble_eq_true rfl) rfl (c8_rank) ?_
                    refine wp_iconst (v := 3) dX8_takesE_287 (by decide) rfl ?_
                    refine wp_icmp_le (t := 304) dX8_takesE_288 rfl rfl (fun h288 => ?_) (fun h288 => ?_)
                    · refine wp_iconst (v := 0) dX8_takesE_304 (by decide) rfl ?_
                      refine wn_zast dX8_takesE_305 o43 rfl (nIx rfl (by omega)) (show zp z < 10 by omega) rfl ?_
                      rw [show vp_nar .boolean 0 = 0 from rfl]
                      have hte := h.zj.te (k := zp z) (v := 0) (b := (decide (rnk (sgn T v) = 3) || (decide (3 < rnk (sgn T v)) && zte z (zp z)))) (by rw [show (decide (rnk (sgn T v) = 3) || (decide (3 < rnk (sgn T v)) && zte z (zp z))) = false from by rw [decide_eq_false h279, decide_eq_false (Int32.not_lt.mpr h288)]; rfl]; rfl)
                      refine wp_aload_n dX8_takesE_306 rfl rfl ?_
                      refine wp_iload dX8_takesE_307 rfl rfl ?_
                      refine wn_callS1d dX8_takesE_309 rRX8_210 (Nat.le_of_ble_eq_true rfl) rfl (Nat.le_of_ble_eq_true rfl) rfl (c8_rank) ?_
                      refine wn_callV1n dX8_takesE_312 rRX8_222 (rcv_of o40 rfl) (Nat.le_of_ble_eq_true rfl) rfl (Nat.le_of_ble_eq_true rfl) rfl (c8_setZ (z := stZ z (zp z) (decide (rnk (sgn T v) = 3) || (decide (3 < rnk (sgn T v)) && zte z (zp z)))) (ls := rnk (sgn T v)) (show zc z + zh z ≤ 96 by omega) hte) (fun s312 hq312 => ?_)
                      have h312 := hq312
                      have hcs := sz_c (z := stZ z (zp z) (decide (rnk (sgn T v) = 3) || (decide (3 < rnk (sgn T v)) && zte z (zp z)))) (ls := rnk (sgn T v))
                      have hcs2 : zc (stZ z (zp z) (decide (rnk (sgn T v) = 3) || (decide (3 < rnk (sgn T v)) && zte z (zp z)))) + zh (stZ z (zp z) (decide (rnk (sgn T v) = 3) || (decide (3 < rnk (sgn T v)) && zte z (zp z)))) = zc z + zh z := rfl
                      refine wp_aload_n dX8_takesE_315 rfl rfl ?_
                      refine wn_getR dX8_takesE_316 fRX8_35 o40 rfl rfl rfl ?_
                      refine wp_aload_n dX8_takesE_319 rfl rfl ?_
                      refine wn_getI dX8_takesE_320 fRX8_207 o40 rfl rfl ?_
                      rw [h312.1.2.2.2.1]
                      refine wp_iload dX8_takesE_323 rfl rfl ?_
                      refine wn_iast dX8_takesE_325 (o41 8 rfl) rfl (nIx rfl (by omega)) (show zh (sz (stZ z (zp z) (decide (rnk (sgn T v) = 3) || (decide (3 < rnk (sgn T v)) && zte z (zp z)))) (rnk (sgn T v))) < 96 by omega) rfl ?_
                      refine wp_aload_n dX8_takesE_326 rfl rfl ?_
                      refine wp_dup dX8_takesE_327 rfl rfl ?_
                      refine wn_getI dX8_takesE_328 fRX8_207 o40 rfl rfl ?_
                      rw [sI_nr (by decide), h312.1.2.2.2.1]
                      refine wp_iconst (v := 1) dX8_takesE_331 (by decide) rfl ?_
                      refine wp_iadd dX8_takesE_332 rfl ?_
                      rw [nI_1]
                      refine wn_putI dX8_takesE_333 fRX8_207 o40 rfl rfl rfl ?_
                      refine wp_iconst (v := 1) dX8_takesE_336 (by decide) rfl ?_
                      refine wp_istore_n (l' := [_, _, _, some _, _]) dX8_takesE_337 rfl rfl ?_
                      refine wp_aload_n dX8_takesE_338 rfl rfl ?_
                      refine wn_callV0n dX8_takesE_339 rRX8_204 (rcv_of o40 rfl) (Nat.le_of_ble_eq_true rfl)  (Nat.le_of_ble_eq_true rfl) rfl (c8_goZ (z := sgZ z (sgn T v)) hn hf ht h6 (h312.psh.z ⟨rfl, rfl, rfl, rfl, rfl, rfl⟩)) (fun s339 hq339 => ?_)
                      have h339 := hq339
                      refine wp_goto (t := 28) dX8_takesE_342 rfl ?_
                      have hsg := hI.sg hw0 (sgn_9 h245)
                      rw [← hsg.2]
                      rw [plp_s hcond (z' := sgZ z (sgn T v)) (by rw [eT, ev]; exact pst_G hw (fun q => h194 q.2.1) (fun q => q.elim h245 (fun q => absurd q.2 (bI_0.mp h263))))]
                      exact ih _ _ _ _ (by omega) hgf.2 h339 (hsg.1.le (by omega)) _
                    · refine wp_aload_n dX8_takesE_291 rfl rfl ?_
                      refine wn_getR dX8_takesE_292 fRX8_38 o40 rfl rfl rfl ?_
                      refine wp_iload_n dX8_takesE_295 rfl rfl ?_
                      refine wn_zald dX8_takesE_296 o43 rfl (nIx rfl (by omega)) (show zp z < 10 by omega) rfl ?_
                      rw [a6 (zp z) hp8]
                      refine wp_if_eq (t := 304) dX8_takesE_297 rfl rfl (fun h297 => ?_) (fun h297 => ?_)
                      · refine wp_iconst (v := 0) dX8_takesE_304 (by decide) rfl ?_
                        refine wn_zast dX8_takesE_305 o43 rfl (nIx rfl (by omega)) (show zp z < 10 by omega) rfl ?_
                        rw [show vp_nar .boolean 0 = 0 from rfl]
                        have hte := h.zj.te (k := zp z) (v := 0) (b := (decide (rnk (sgn T v) = 3) || (decide (3 < rnk (sgn T v)) && zte z (zp z)))) (by rw [show (decide (rnk (sgn T v) = 3) || (decide (3 < rnk (sgn T v)) && zte z (zp z))) = false from by rw [decide_eq_false h279, Bool.eq_false_iff.mpr (bI_0.mp h297), Bool.and_false]; rfl]; rfl)
                        refine wp_aload_n dX8_takesE_306 rfl rfl ?_
                        refine wp_iload dX8_takesE_307 rfl rfl ?_
                        refine wn_callS1d dX8_takesE_309 rRX8_210 (Nat.le_of_ble_eq_true rfl) rfl (Nat.le_of_ble_eq_true rfl) rfl (c8_rank) ?_
                        refine wn_callV1n dX8_takesE_312 rRX8_222 (rcv_of o40 rfl) (Nat.le_of_ble_eq_true rfl) rfl (Nat.le_of_ble_eq_true rfl) rfl (c8_setZ (z := stZ z (zp z) (decide (rnk (sgn T v) = 3) || (decide (3 < rnk (sgn T v)) && zte z (zp z)))) (ls := rnk (sgn T v)) (show zc z + zh z ≤ 96 by omega) hte) (fun s312 hq312 => ?_)
                        have h312 := hq312
                        have hcs := sz_c (z := stZ z (zp z) (decide (rnk (sgn T v) = 3) || (decide (3 < rnk (sgn T v)) && zte z (zp z)))) (ls := rnk (sgn T v))
                        have hcs2 : zc (stZ z (zp z) (decide (rnk (sgn T v) = 3) || (decide (3 < rnk (sgn T v)) && zte z (zp z)))) + zh (stZ z (zp z) (decide (rnk (sgn T v) = 3) || (decide (3 < rnk (sgn T v)) && zte z (zp z)))) = zc z + zh z := rfl
                        refine wp_aload_n dX8_takesE_315 rfl rfl ?_
                        refine wn_getR dX8_takesE_316 fRX8_35 o40 rfl rfl rfl ?_
                        refine wp_aload_n dX8_takesE_319 rfl rfl ?_
                        refine wn_getI dX8_takesE_320 fRX8_207 o40 rfl rfl ?_
                        rw [h312.1.2.2.2.1]
                        refine wp_iload dX8_takesE_323 rfl rfl ?_
                        refine wn_iast dX8_takesE_325 (o41 8 rfl) rfl (nIx rfl (by omega)) (show zh (sz (stZ z (zp z) (decide (rnk (sgn T v) = 3) || (decide (3 < rnk (sgn T v)) && zte z (zp z)))) (rnk (sgn T v))) < 96 by omega) rfl ?_
                        refine wp_aload_n dX8_takesE_326 rfl rfl ?_
                        refine wp_dup dX8_takesE_327 rfl rfl ?_
                        refine wn_getI dX8_takesE_328 fRX8_207 o40 rfl rfl ?_
                        rw [sI_nr (by decide), h312.1.2.2.2.1]
                        refine wp_iconst (v := 1) dX8_takesE_331 (by decide) rfl ?_
                        refine wp_iadd dX8_takesE_332 rfl ?_
                        rw [nI_1]
                        refine wn_putI dX8_takesE_333 fRX8_207 o40 rfl rfl rfl ?_
                        refine wp_iconst (v := 1) dX8_takesE_336 (by decide) rfl ?_
                        refine wp_istore_n (l' := [_, _, _, some _, _]) dX8_takesE_337 rfl rfl ?_
                        refine wp_aload_n dX8_takesE_338 rfl rfl ?_
                        refine wn_callV0n dX8_takesE_339 rRX8_204 (rcv_of o40 rfl) (Nat.le_of_ble_eq_true rfl)  (Nat.le_of_ble_eq_true rfl) rfl (c8_goZ (z := sgZ z (sgn T v)) hn hf ht h6 (h312.psh.z ⟨rfl, rfl, rfl, rfl, rfl, rfl⟩)) (fun s339 hq339 => ?_)
                        have h339 := hq339
                        refine wp_goto (t := 28) dX8_takesE_342 rfl ?_
                        have hsg := hI.sg hw0 (sgn_9 h245)
                        rw [← hsg.2]
                        rw [plp_s hcond (z' := sgZ z (sgn T v)) (by rw [eT, ev]; exact pst_G hw (fun q => h194 q.2.1) (fun q => q.elim h245 (fun q => absurd q.2 (bI_0.mp h263))))]
                        exact ih _ _ _ _ (by omega) hgf.2 h339 (hsg.1.le (by omega)) _
                      · refine wp_iconst (v := 1) dX8_takesE_300 (by decide) rfl ?_
                        refine wp_goto (t := 305) dX8_takesE_301 rfl ?_
                        refine wn_zast dX8_takesE_305 o43 rfl (nIx rfl (by omega)) (show zp z < 10 by omega) rfl ?_
                        rw [show vp_nar .boolean 1 = 1 from rfl]
                        have hte := h.zj.te (k := zp z) (v := 1) (b := (decide (rnk (sgn T v) = 3) || (decide (3 < rnk (sgn T v)) && zte z (zp z)))) (by rw [show (decide (rnk (sgn T v) = 3) || (decide (3 < rnk (sgn T v)) && zte z (zp z))) = true from by rw [decide_eq_false h279, decide_eq_true (Int32.not_le.mp h288), show zte z (zp z) = true from Decidable.not_not.mp (fun q => h297 (bI_0.mpr q))]; rfl]; rfl)
                        refine wp_aload_n dX8_takesE_306 rfl rfl ?_
                        refine wp_iload dX8_takesE_307 rfl rfl ?_
                        refine wn_callS1d dX8_takesE_309 rRX8_210 (Nat.le_of_ble_eq_true rfl) rfl (Nat.le_of_ble_eq_true rfl) rfl (c8_rank) ?_
                        refine wn_callV1n dX8_takesE_312 rRX8_222 (rcv_of o40 rfl) (Nat.le_of_ble_eq_true rfl) rfl (Nat.le_of_ble_eq_true rfl) rfl (c8_setZ (z := stZ z (zp z) (decide (rnk (sgn T v) = 3) || (decide (3 < rnk (sgn T v)) && zte z (zp z)))) (ls := rnk (sgn T v)) (show zc z + zh z ≤ 96 by omega) hte) (fun s312 hq312 => ?_)
                        have h312 := hq312
                        have hcs := sz_c (z := stZ z (zp z) (decide (rnk (sgn T v) = 3) || (decide (3 < rnk (sgn T v)) && zte z (zp z)))) (ls := rnk (sgn T v))
                        have hcs2 : zc (stZ z (zp z) (decide (rnk (sgn T v) = 3) || (decide (3 < rnk (sgn T v)) && zte z (zp z)))) + zh (stZ z (zp z) (decide (rnk (sgn T v) = 3) || (decide (3 < rnk (sgn T v)) && zte z (zp z)))) = zc z + zh z := rfl
                        refine wp_aload_n dX8_takesE_315 rfl rfl ?_
                        refine wn_getR dX8_takesE_316 fRX8_35 o40 rfl rfl rfl ?_
                        refine wp_aload_n dX8_takesE_319 rfl rfl ?_
                        refine wn_getI dX8_takesE_320 fRX8_207 o40 rfl rfl ?_
                        rw [h312.1.2.2.2.1]
                        refine wp_iload dX8_takesE_323 rfl rfl ?_
                        refine wn_iast dX8_takesE_325 (o41 8 rfl) rfl (nIx rfl (by omega)) (show zh (sz (stZ z (zp z) (decide (rnk (sgn T v) = 3) || (decide (3 < rnk (sgn T v)) && zte z (zp z)))) (rnk (sgn T v))) < 96 by omega) rfl ?_
                        refine wp_aload_n dX8_takesE_326 rfl rfl ?_
                        refine wp_dup dX8_takesE_327 rfl rfl ?_
                        refine wn_getI dX8_takesE_328 fRX8_207 o40 rfl rfl ?_
                        rw [sI_nr (by decide), h312.1.2.2.2.1]
                        refine wp_iconst (v := 1) dX8_takesE_331 (by decide) rfl ?_
                        refine wp_iadd dX8_takesE_332 rfl ?_
                        rw [nI_1]
                        refine wn_putI dX8_takesE_333 fRX8_207 o40 rfl rfl rfl ?_
                        refine wp_iconst (v := 1) dX8_takesE_336 (by decide) rfl ?_
                        refine wp_istore_n (l' := [_, _, _, some _, _]) dX8_takesE_337 rfl rfl ?_
                        refine wp_aload_n dX8_takesE_338 rfl rfl ?_
                        refine wn_callV0n dX8_takesE_339 rRX8_204 (rcv_of o40 rfl) (Nat.le_of_ble_eq_true rfl)  (Nat.le_of_ble_eq_true rfl) rfl (c8_goZ (z := sgZ z (sgn T v)) hn hf ht h6 (h312.psh.z ⟨rfl, rfl, rfl, rfl, rfl, rfl⟩)) (fun s339 hq339 => ?_)
                        have h339 := hq339
                        refine wp_goto (t := 28) dX8_takesE_342 rfl ?_
                        have hsg := hI.sg hw0 (sgn_9 h245)
                        rw [← hsg.2]
                        rw [plp_s hcond (z' := sgZ z (sgn T v)) (by rw [eT, ev]; exact pst_G hw (fun q => h194 q.2.1) (fun q => q.elim h245 (fun q => absurd q.2 (bI_0.mp h263))))]
                        exact ih _ _ _ _ (by omega) hgf.2 h339 (hsg.1.le (by omega)) _
                · refine wp_iconst (v := 0) dX8_takesE_266 (by decide) rfl ?_
                  refine wp_iret dX8_takesE_267 rfl (by decide) ?_
                  refine ⟨_, _, rfl, rfl, ?_⟩
                  rw [plp_n hcond (by rw [eT, ev]; exact pst_F hw (fun q => h194 q.2.1) (Or.inr ⟨h254, Decidable.not_not.mp (fun q => h263 (bI_0.mpr q))⟩))]
                  exact ⟨rfl, h.1, h.2.1.1, h.2.2⟩
          · refine wp_iload_n dX8_takesE_197 rfl rfl ?_
            refine wp_if_le (t := 237) dX8_takesE_198 rfl rfl (fun h198 => ?_) (fun h198 => ?_)
            · refine wp_aload_n dX8_takesE_237 rfl rfl ?_
              refine wn_callV0d dX8_takesE_238 rRX8_232 (rcv_of o40 rfl) (Nat.le_of_ble_eq_true rfl)  (Nat.le_of_ble_eq_true rfl) rfl (c8_signHere) ?_
              rw [e9, e10]
              refine wp_istore (l' := [_, _, _, _, some _]) dX8_takesE_241 rfl rfl ?_
              refine wp_iload dX8_takesE_243 rfl rfl ?_
              refine wp_if_eq (t := 266) dX8_takesE_245 rfl rfl (fun h245 => ?_) (fun h245 => ?_)
              · refine wp_iconst (v := 0) dX8_takesE_266 (by decide) rfl ?_
                refine wp_iret dX8_takesE_267 rfl (by decide) ?_
                refine ⟨_, _, rfl, rfl, ?_⟩
                rw [plp_n hcond (by rw [eT, ev]; exact pst_F hw (fun q => absurd q.2.2 (by have := (nI_leI (b := 0) (by omega) (by decide)).mp h198; omega)) (Or.inl h245))]
                exact ⟨rfl, h.1, h.2.1.1, h.2.2⟩
              · refine wp_iload dX8_takesE_248 rfl rfl ?_
                refine wn_callS1d dX8_takesE_250 rRX8_210 (Nat.le_of_ble_eq_true rfl) rfl (Nat.le_of_ble_eq_true rfl) rfl (c8_rank) ?_
                refine wp_iconst (v := 3) dX8_takesE_253 (by decide) rfl ?_
                refine wp_icmp_ne (t := 268) dX8_takesE_254 rfl rfl (fun h254 => ?_) (fun h254 => ?_)
                · refine wp_aload_n dX8_takesE_268 rfl rfl ?_
                  refine wn_getR dX8_takesE_269 fRX8_38 o40 rfl rfl rfl ?_
                  refine wp_iload_n dX8_takesE_272 rfl rfl ?_
                  refine wp_iload dX8_takesE_273 rfl rfl ?_
                  refine wn_callS1d dX8_takesE_275 rRX8_210 (Nat.le_of_ble_eq_true rfl) rfl (Nat.le_of_ble_eq_true rfl) rfl (c8_rank) ?_
                  refine wp_iconst (v := 3) dX8_takesE_278 (by decide) rfl ?_
                  refine wp_icmp_eq (t := 300) dX8_takesE_279 rfl rfl (fun h279 => ?_) (fun h279 => ?_)
                  · refine wp_iconst (v := 1) dX8_takesE_300 (by decide) rfl ?_
                    refine wp_goto (t := 305) dX8_takesE_301 rfl ?_
                    refine wn_zast dX8_takesE_305 o43 rfl (nIx rfl (by omega)) (show zp z < 10 by omega) rfl ?_
                    rw [show vp_nar .boolean 1 = 1 from rfl]
                    have hte := h.zj.te (k := zp z) (v := 1) (b := (decide (rnk (sgn T v) = 3) || (decide (3 < rnk (sgn T v)) && zte z (zp z)))) (by rw [show (decide (rnk (sgn T v) = 3) || (decide (3 < rnk (sgn T v)) && zte z (zp z))) = true from by rw [decide_eq_true h279]; rfl]; rfl)
                    refine wp_aload_n dX8_takesE_306 rfl rfl ?_
                    refine wp_iload dX8_takesE_307 rfl rfl ?_
                    refine wn_callS1d dX8_takesE_309 rRX8_210 (Nat.le_of_ble_eq_true rfl) rfl (Nat.le_of_ble_eq_true rfl) rfl (c8_rank) ?_
                    refine wn_callV1n dX8_takesE_312 rRX8_222 (rcv_of o40 rfl) (Nat.le_of_ble_eq_true rfl) rfl (Nat.le_of_ble_eq_true rfl) rfl (c8_setZ (z := stZ z (zp z) (decide (rnk (sgn T v) = 3) || (decide (3 < rnk (sgn T v)) && zte z (zp z)))) (ls := rnk (sgn T v)) (show zc z + zh z ≤ 96 by omega) hte) (fun s312 hq312 => ?_)
                    have h312 := hq312
                    have hcs := sz_c (z := stZ z (zp z) (decide (rnk (sgn T v) = 3) || (decide (3 < rnk (sgn T v)) && zte z (zp z)))) (ls := rnk (sgn T v))
                    have hcs2 : zc (stZ z (zp z) (decide (rnk (sgn T v) = 3) || (decide (3 < rnk (sgn T v)) && zte z (zp z)))) + zh (stZ z (zp z) (decide (rnk (sgn T v) = 3) || (decide (3 < rnk (sgn T v)) && zte z (zp z)))) = zc z + zh z := rfl
                    refine wp_aload_n dX8_takesE_315 rfl rfl ?_
                    refine wn_getR dX8_takesE_316 fRX8_35 o40 rfl rfl rfl ?_
                    refine wp_aload_n dX8_takesE_319 rfl rfl ?_
                    refine wn_getI dX8_takesE_320 fRX8_207 o40 rfl rfl ?_
                    rw [h312.1.2.2.2.1]
                    refine wp_iload dX8_takesE_323 rfl rfl ?_
                    refine wn_iast dX8_takesE_325 (o41 8 rfl) rfl (nIx rfl (by omega)) (show zh (sz (stZ z (zp z) (decide (rnk (sgn T v) = 3) || (decide (3 < rnk (sgn T v)) && zte z (zp z)))) (rnk (sgn T v))) < 96 by omega) rfl ?_
                    refine wp_aload_n dX8_takesE_326 rfl rfl ?_
                    refine wp_dup dX8_takesE_327 rfl rfl ?_
                    refine wn_getI dX8_takesE_328 fRX8_207 o40 rfl rfl ?_
                    rw [sI_nr (by decide), h312.1.2.2.2.1]
                    refine wp_iconst (v := 1) dX8_takesE_331 (by decide) rfl ?_
                    refine wp_iadd dX8_takesE_332 rfl ?_
                    rw [nI_1]
                    refine wn_putI dX8_takesE_333 fRX8_207 o40 rfl rfl rfl ?_
                    refine wp_iconst (v := 1) dX8_takesE_336 (by decide) rfl ?_
                    refine wp_istore_n (l' := [_, _, _, some _, _]) dX8_takesE_337 rfl rfl ?_
                    refine wp_aload_n dX8_takesE_338 rfl rfl ?_
                    refine wn_callV0n dX8_takesE_339 rRX8_204 (rcv_of o40 rfl) (Nat.le_of_ble_eq_true rfl)  (Nat.le_of_ble_eq_true rfl) rfl (c8_goZ (z := sgZ z (sgn T v)) hn hf ht h6 (h312.psh.z ⟨rfl, rfl, rfl, rfl, rfl, rfl⟩)) (fun s339 hq339 => ?_)
                    have h339 := hq339
                    refine wp_goto (t := 28) dX8_takesE_342 rfl ?_
                    have hsg := hI.sg hw0 (sgn_9 h245)
                    rw [← hsg.2]
                    rw [plp_s hcond (z' := sgZ z (sgn T v)) (by rw [eT, ev]; exact pst_G hw (fun q => absurd q.2.2 (by have := (nI_leI (b := 0) (by omega) (by decide)).mp h198; omega)) (fun q => q.elim h245 (fun q => h254 q.1)))]
                    exact ih _ _ _ _ (by omega) hgf.2 h339 (hsg.1.le (by omega)) _
                  · refine wp_iload dX8_takesE_282 rfl rfl ?_
                    refine wn_callS1d dX8_takesE_284 rRX8_210 (Nat.le_of_ble_eq_true rfl) rfl (Nat.le_of_ble_eq_true rfl) rfl (c8_rank) ?_
                    refine wp_iconst (v := 3) dX8_takesE_287 (by decide) rfl ?_
                    refine wp_icmp_le (t := 304) dX8_takesE_288 rfl rfl (fun h288 => ?_) (fun h288 => ?_)
                    · refine wp_iconst (v := 0) dX8_takesE_304 (by decide) rfl ?_
                      refine wn_zast dX8_takesE_305 o43 rfl (nIx rfl (by omega)) (show zp z < 10 by omega) rfl ?_
                      rw [show vp_nar .boolean 0 = 0 from rfl]
                      have hte := h.zj.te (k := zp z) (v := 0) (b := (decide (rnk (sgn T v) = 3) || (decide (3 < rnk (sgn T v)) && zte z (zp z)))) (by rw [show (decide (rnk (sgn T v) = 3) || (decide (3 < rnk (sgn T v)) && zte z (zp z))) = false from by rw [decide_eq_false h279, decide_eq_false (Int32.not_lt.mpr h288)]; rfl]; rfl)
                      refine wp_aload_n dX8_takesE_306 rfl rfl ?_
                      refine wp_iload dX8_takesE_307 rfl rfl ?_
                      refine wn_callS1d dX8_takesE_309 rRX8_210 (Nat.le_of_ble_eq_true rfl) rfl (Nat.le_of_ble_eq_true rfl) rfl (c8_rank) ?_
                      refine wn_callV1n dX8_takesE_312 rRX8_222 (rcv_of o40 rfl) (Nat.le_of_ble_eq_true rfl) rfl (Nat.le_of_ble_eq_true rfl) rfl (c8_setZ (z := stZ z (zp z) (decide (rnk (sgn T v) = 3) || (decide (3 < rnk (sgn T v)) && zte z (zp z)))) (ls := rnk (sgn T v)) (show zc z + zh z ≤ 96 by omega) hte) (fun s312 hq312 => ?_)
                      have h312 := hq312
                      have hcs := sz_c (z := stZ z (zp z) (decide (rnk (sgn T v) = 3) || (decide (3 < rnk (sgn T v)) && zte z (zp z)))) (ls := rnk (sgn T v))
                      have hcs2 : zc (stZ z (zp z) (decide (rnk (sgn T v) = 3) || (decide (3 < rnk (sgn T v)) && zte z (zp z)))) + zh (stZ z (zp z) (decide (rnk (sgn T v) = 3) || (decide (3 < rnk (sgn T v)) && zte z (zp z)))) = zc z + zh z := rfl
                      refine wp_aload_n dX8_takesE_315 rfl rfl ?_
                      refine wn_getR dX8_takesE_316 fRX8_35 o40 rfl rfl rfl ?_
                      refine wp_aload_n dX8_takesE_319 rfl rfl ?_
                      refine wn_getI dX8_takesE_320 fRX8_207 o40 rfl rfl ?_
                      rw [h312.1.2.2.2.1]
                      refine wp_iload dX8_takesE_323 rfl rfl ?_
                      refine wn_iast dX8_takesE_325 (o41 8 rfl) rfl (nIx rfl (by omega)) (show zh (sz (stZ z (zp z) (decide (rnk (sgn T v) = 3) || (decide (3 < rnk (sgn T v)) && zte z (zp z)))) (rnk (sgn T v))) < 96 by omega) rfl ?_
                      refine wp_aload_n dX8_takesE_326 rfl rfl ?_
                      refine wp_dup dX8_takesE_327 rfl rfl ?_
                      refine wn_getI dX8_takesE_328 fRX8_207 o40 rfl rfl ?_
                      rw [sI_nr (by decide), h312.1.2.2.2.1]
                      refine wp_iconst (v := 1) dX8_takesE_331 (by decide) rfl ?_
                      refine wp_iadd dX8_takesE_332 rfl ?_
                      rw [nI_1]
                      refine wn_putI dX8_takesE_333 fRX8_207 o40 rfl rfl rfl ?_
                      refine wp_iconst (v := 1) dX8_takesE_336 (by decide) rfl ?_
                      refine wp_istore_n (l' := [_, _, _, some _, _]) dX8_takesE_337 rfl rfl ?_
                      refine wp_aload_n dX8_takesE_338 rfl rfl ?_
                      refine wn_callV0n dX8_takesE_339 rRX8_204 (rcv_of o40 rfl) (Nat.le_of_ble_eq_true rfl)  (Nat.le_of_ble_eq_true rfl) rfl (c8_goZ (z := sgZ z (sgn T v)) hn hf ht h6 (h312.psh.z ⟨rfl, rfl, rfl, rfl, rfl, rfl⟩)) (fun s339 hq339 => ?_)
                      have h339 := hq339
                      refine wp_goto (t := 28) dX8_takesE_342 rfl ?_
                      have hsg := hI.sg hw0 (sgn_9 h245)
                      rw [← hsg.2]
                      rw [plp_s hcond (z' := sgZ z (sgn T v)) (by rw [eT, ev]; exact pst_G hw (fun q => absurd q.2.2 (by have := (nI_leI (b := 0) (by omega) (by decide)).mp h198; omega)) (fun q => q.elim h245 (fun q => h254 q.1)))]
                      exact ih _ _ _ _ (by omega) hgf.2 h339 (hsg.1.le (by omega)) _
                    · refine wp_aload_n dX8_takesE_291 rfl rfl ?_
                      refine wn_getR dX8_takesE_292 fRX8_38 o40 rfl rfl rfl ?_
                      refine wp_iload_n dX8_takesE_295 rfl rfl ?_
                      refine wn_zald dX8_takesE_296 o43 rfl (nIx rfl (by omega)) (show zp z < 10 by omega) rfl ?_
                      rw [a6 (zp z) hp8]
                      refine wp_if_eq (t := 304) dX8_takesE_297 rfl rfl (fun h297 => ?_) (fun h297 => ?_)
                      · refine wp_iconst (v := 0) dX8_takesE_304 (by decide) rfl ?_
                        refine wn_zast dX8_takesE_305 o43 rfl (nIx rfl (by omega)) (show zp z < 10 by omega) rfl ?_
                        rw [show vp_nar .boolean 0 = 0 from rfl]
                        have hte := h.zj.te (k := zp z) (v := 0) (b := (decide (rnk (sgn T v) = 3) || (decide (3 < rnk (sgn T v)) && zte z (zp z)))) (by rw [show (decide (rnk (sgn T v) = 3) || (decide (3 < rnk (sgn T v)) && zte z (zp z))) = false from by rw [decide_eq_false h279, Bool.eq_false_iff.mpr (bI_0.mp h297), Bool.and_false]; rfl]; rfl)
                        refine wp_aload_n dX8_takesE_306 rfl rfl ?_
                        refine wp_iload dX8_takesE_307 rfl rfl ?_
                        refine wn_callS1d dX8_takesE_309 rRX8_210 (Nat.le_of_ble_eq_true rfl) rfl (Nat.le_of_ble_eq_true rfl) rfl (c8_rank) ?_
                        refine wn_callV1n dX8_takesE_312 rRX8_222 (rcv_of o40 rfl) (Nat.le_of_ble_eq_true rfl) rfl (Nat.le_of_ble_eq_true rfl) rfl (c8_setZ (z := stZ z (zp z) (decide (rnk (sgn T v) = 3) || (decide (3 < rnk (sgn T v)) && zte z (zp z)))) (ls := rnk (sgn T v)) (show zc z + zh z ≤ 96 by omega) hte) (fun s312 hq312 => ?_)
                        have h312 := hq312
                        have hcs := sz_c (z := stZ z (zp z) (decide (rnk (sgn T v) = 3) || (decide (3 < rnk (sgn T v)) && zte z (zp z)))) (ls := rnk (sgn T v))
                        have hcs2 : zc (stZ z (zp z) (decide (rnk (sgn T v) = 3) || (decide (3 < rnk (sgn T v)) && zte z (zp z)))) + zh (stZ z (zp z) (decide (rnk (sgn T v) = 3) || (decide (3 < rnk (sgn T v)) && zte z (zp z)))) = zc z + zh z := rfl
                        refine wp_aload_n dX8_takesE_315 rfl rfl ?_
                        refine wn_getR dX8_takesE_316 fRX8_35 o40 rfl rfl rfl ?_
                        refine wp_aload_n dX8_takesE_319 rfl rfl ?_
                        refine wn_getI dX8_takesE_320 fRX8_207 o40 rfl rfl ?_
                        rw [h312.1.2.2.2.1]
                        refine wp_iload dX8_takesE_323 rfl rfl ?_
                        refine wn_iast dX8_takesE_325 (o41 8 rfl) rfl (nIx rfl (by omega)) (show zh (sz (stZ z (zp z) (decide (rnk (sgn T v) = 3) || (decide (3 < rnk (sgn T v)) && zte z (zp z)))) (rnk (sgn T v))) < 96 by omega) rfl ?_
                        refine wp_aload_n dX8_takesE_326 rfl rfl ?_
                        refine wp_dup dX8_takesE_327 rfl rfl ?_
                        refine wn_getI dX8_takesE_328 fRX8_207 o40 rfl rfl ?_
                        rw [sI_nr (by decide), h312.1.2.2.2.1]
                        refine wp_iconst (v := 1) dX8_takesE_331 (by decide) rfl ?_
                        refine wp_iadd dX8_takesE_332 rfl ?_
                        rw [nI_1]
                        refine wn_putI dX8_takesE_333 fRX8_207 o40 rfl rfl rfl ?_
                        refine wp_iconst (v := 1) dX8_takesE_336 (by decide) rfl ?_
                        refine wp_istore_n (l' := [_, _, _, some _, _]) dX8_takesE_337 rfl rfl ?_
                        refine wp_aload_n dX8_takesE_338 rfl rfl ?_
                        refine wn_callV0n dX8_takesE_339 rRX8_204 (rcv_of o40 rfl) (Nat.le_of_ble_eq_true rfl)  (Nat.le_of_ble_eq_true rfl) rfl (c8_goZ (z := sgZ z (sgn T v)) hn hf ht h6 (h312.psh.z ⟨rfl, rfl, rfl, rfl, rfl, rfl⟩)) (fun s339 hq339 => ?_)
                        have h339 := hq339
                        refine wp_goto (t := 28) dX8_takesE_342 rfl ?_
                        have hsg := hI.sg hw0 (sgn_9 h245)
                        rw [← hsg.2]
                        rw [plp_s hcond (z' := sgZ z (sgn T v)) (by rw [eT, ev]; exact pst_G hw (fun q => absurd q.2.2 (by have := (nI_leI (b := 0) (by omega) (by decide)).mp h198; omega)) (fun q => q.elim h245 (fun q => h254 q.1)))]
                        exact ih _ _ _ _ (by omega) hgf.2 h339 (hsg.1.le (by omega)) _
                      · refine wp_iconst (v := 1) dX8_takesE_300 (by decide) rfl ?_
                        refine wp_goto (t := 305) dX8_takesE_301 rfl ?_
                        refine wn_zast dX8_takesE_305 o43 rfl (nIx rfl (by omega)) (show zp z < 10 by omega) rfl ?_
                        rw [show vp_nar .boolean 1 = 1 from rfl]
                        have hte := h.zj.te (k := zp z) (v := 1) (b := (decide (rnk (sgn T v) = 3) || (decide (3 < rnk (sgn T v)) && zte z (zp z)))) (by rw [show (decide (rnk (sgn T v) = 3) || (decide (3 < rnk (sgn T v)) && zte z (zp z))) = true from by rw [decide_eq_false h279, decide_eq_true (Int32.not_le.mp h288), show zte z (zp z) = true from Decidable.not_not.mp (fun q => h297 (bI_0.mpr q))]; rfl]; rfl)
                        refine wp_aload_n dX8_takesE_306 rfl rfl ?_
                        refine wp_iload dX8_takesE_307 rfl rfl ?_
                        refine wn_callS1d dX8_takesE_309 rRX8_210 (Nat.le_of_ble_eq_true rfl) rfl (Nat.le_of_ble_eq_true rfl) rfl (c8_rank) ?_
                        refine wn_callV1n dX8_takesE_312 rRX8_222 (rcv_of o40 rfl) (Nat.le_of_ble_eq_true rfl) rfl (Nat.le_of_ble_eq_true rfl) rfl (c8_setZ (z := stZ z (zp z) (decide (rnk (sgn T v) = 3) || (decide (3 < rnk (sgn T v)) && zte z (zp z)))) (ls := rnk (sgn T v)) (show zc z + zh z ≤ 96 by omega) hte) (fun s312 hq312 => ?_)
                        have h312 := hq312
                        have hcs := sz_c (z := stZ z (zp z) (decide (rnk (sgn T v) = 3) || (decide (3 < rnk (sgn T v)) && zte z (zp z)))) (ls := rnk (sgn T v))
                        have hcs2 : zc (stZ z (zp z) (decide (rnk (sgn T v) = 3) || (decide (3 < rnk (sgn T v)) && zte z (zp z)))) + zh (stZ z (zp z) (decide (rnk (sgn T v) = 3) || (decide (3 < rnk (sgn T v)) && zte z (zp z)))) = zc z + zh z := rfl
                        refine wp_aload_n dX8_takesE_315 rfl rfl ?_
                        refine wn_getR dX8_takesE_316 fRX8_35 o40 rfl rfl rfl ?_
                        refine wp_aload_n dX8_takesE_319 rfl rfl ?_
                        refine wn_getI dX8_takesE_320 fRX8_207 o40 rfl rfl ?_
                        rw [h312.1.2.2.2.1]
                        refine wp_iload dX8_takesE_323 rfl rfl ?_
                        refine wn_iast dX8_takesE_325 (o41 8 rfl) rfl (nIx rfl (by omega)) (show zh (sz (stZ z (zp z) (decide (rnk (sgn T v) = 3) || (decide (3 < rnk (sgn T v)) && zte z (zp z)))) (rnk (sgn T v))) < 96 by omega) rfl ?_
                        refine wp_aload_n dX8_takesE_326 rfl rfl ?_
                        refine wp_dup dX8_takesE_327 rfl rfl ?_
                        refine wn_getI dX8_takesE_328 fRX8_207 o40 rfl rfl ?_
                        rw [sI_nr (by decide), h312.1.2.2.2.1]
                        refine wp_iconst (v := 1) dX8_takesE_331 (by decide) rfl ?_
                        refine wp_iadd dX8_takesE_332 rfl ?_
                        rw [nI_1]
                        refine wn_putI dX8_takesE_333 fRX8_207 o40 rfl rfl rfl ?_
                        refine wp_iconst (v := 1) dX8_takesE_336 (by decide) rfl ?_
                        refine wp_istore_n (l' := [_, _, _, some _, _]) dX8_takesE_337 rfl rfl ?_
                        refine wp_aload_n dX8_takesE_338 rfl rfl ?_
                        refine wn_callV0n dX8_takesE_339 rRX8_204 (rcv_of o40 rfl) (Nat.le_of_ble_eq_true rfl)  (Nat.le_of_ble_eq_true rfl) rfl (c8_goZ (z := sgZ z (sgn T v)) hn hf ht h6 (h312.psh.z ⟨rfl, rfl, rfl, rfl, rfl, rfl⟩)) (fun s339 hq339 => ?_)
                        have h339 := hq339
                        refine wp_goto (t := 28) dX8_takesE_342 rfl ?_
                        have hsg := hI.sg hw0 (sgn_9 h245)
                        rw [← hsg.2]
                        rw [plp_s hcond (z' := sgZ z (sgn T v)) (by rw [eT, ev]; exact pst_G hw (fun q => absurd q.2.2 (by have := (nI_leI (b := 0) (by omega) (by decide)).mp h198; omega)) (fun q => q.elim h245 (fun q => h254 q.1)))]
                        exact ih _ _ _ _ (by omega) hgf.2 h339 (hsg.1.le (by omega)) _
                · refine wp_aload_n dX8_takesE_257 rfl rfl ?_
                  refine wn_getR dX8_takesE_258 fRX8_38 o40 rfl rfl rfl ?_
                  refine wp_iload_n dX8_takesE_261 rfl rfl ?_
                  refine wn_zald dX8_takesE_262 o43 rfl (nIx rfl (by omega)) (show zp z < 10 by omega) rfl ?_
                  rw [a6 (zp z) hp8]
                  refine wp_if_eq (t := 268) dX8_takesE_263 rfl rfl (fun h263 => ?_) (fun h263 => ?_)
                  · refine wp_aload_n dX8_takesE_268 rfl rfl ?_
                    refine wn_getR dX8_takesE_269 fRX8_38 o40 rfl rfl rfl ?_
                    refine wp_iload_n dX8_takesE_272 rfl rfl ?_
                    refine wp_iload dX8_takesE_273 rfl rfl ?_
                    refine wn_callS1d dX8_takesE_275 rRX8_210 (Nat.le_of_ble_eq_true rfl) rfl (Nat.le_of_ble_eq_true rfl) rfl (c8_rank) ?_
                    refine wp_iconst (v := 3) dX8_takesE_278 (by decide) rfl ?_
                    refine wp_icmp_eq (t := 300) dX8_takesE_279 rfl rfl (fun h279 => ?_) (fun h279 => ?_)
                    · refine wp_iconst (v := 1) dX8_takesE_300 (by decide) rfl ?_
                      refine wp_goto (t := 305) dX8_takesE_301 rfl ?_
                      refine wn_zast dX8_takesE_305 o43 rfl (nIx rfl (by omega)) (show zp z < 10 by omega) rfl ?_
                      rw [show vp_nar .boolean 1 = 1 from rfl]
                      have hte := h.zj.te (k := zp z) (v := 1) (b := (decide (rnk (sgn T v) = 3) || (decide (3 < rnk (sgn T v)) && zte z (zp z)))) (by rw [show (decide (rnk (sgn T v) = 3) || (decide (3 < rnk (sgn T v)) && zte z (zp z))) = true from by rw [decide_eq_true h279]; rfl]; rfl)
                      refine wp_aload_n dX8_takesE_306 rfl rfl ?_
                      refine wp_iload dX8_takesE_307 rfl rfl ?_
                      refine wn_callS1d dX8_takesE_309 rRX8_210 (Nat.le_of_ble_eq_true rfl) rfl (Nat.le_of_ble_eq_true rfl) rfl (c8_rank) ?_
                      refine wn_callV1n dX8_takesE_312 rRX8_222 (rcv_of o40 rfl) (Nat.le_of_ble_eq_true rfl) rfl (Nat.le_of_ble_eq_true rfl) rfl (c8_setZ (z := stZ z (zp z) (decide (rnk (sgn T v) = 3) || (decide (3 < rnk (sgn T v)) && zte z (zp z)))) (ls := rnk (sgn T v)) (show zc z + zh z ≤ 96 by omega) hte) (fun s312 hq312 => ?_)
                      have h312 := hq312
                      have hcs := sz_c (z := stZ z (zp z) (decide (rnk (sgn T v) = 3) || (decide (3 < rnk (sgn T v)) && zte z (zp z)))) (ls := rnk (sgn T v))
                      have hcs2 : zc (stZ z (zp z) (decide (rnk (sgn T v) = 3) || (decide (3 < rnk (sgn T v)) && zte z (zp z)))) + zh (stZ z (zp z) (decide (rnk (sgn T v) = 3) || (decide (3 < rnk (sgn T v)) && zte z (zp z)))) = zc z + zh z := rfl
                      refine wp_aload_n dX8_takesE_315 rfl rfl ?_
                      refine wn_getR dX8_takesE_316 fRX8_35 o40 rfl rfl rfl ?_
                      refine wp_aload_n dX8_takesE_319 rfl rfl ?_
                      refine wn_getI dX8_takesE_320 fRX8_207 o40 rfl rfl ?_
                      rw [h312.1.2.2.2.1]
                      refine wp_iload dX8_takesE_323 rfl rfl ?_
                      refine wn_iast dX8_takesE_325 (o41 8 rfl) rfl (nIx rfl (by omega)) (show zh (sz (stZ z (zp z) (decide (rnk (sgn T v) = 3) || (decide (3 < rnk (sgn T v)) && zte z (zp z)))) (rnk (sgn T v))) < 96 by omega) rfl ?_
                      refine wp_aload_n dX8_takesE_326 rfl rfl ?_
                      refine wp_dup dX8_takesE_327 rfl rfl ?_
                      refine wn_getI dX8_takesE_328 fRX8_207 o40 rfl rfl ?_
                      rw [sI_nr (by decide), h312.1.2.2.2.1]
                      refine wp_iconst (v := 1) dX8_takesE_331 (by decide) rfl ?_
                      refine wp_iadd dX8_takesE_332 rfl ?_
                      rw [nI_1]
                      refine wn_putI dX8_takesE_333 fRX8_207 o40 rfl rfl rfl ?_
                      refine wp_iconst (v := 1) dX8_takesE_336 (by decide) rfl ?_
                      refine wp_istore_n (l' := [_, _, _, some _, _]) dX8_takesE_337 rfl rfl ?_
                      refine wp_aload_n dX8_takesE_338 rfl rfl ?_
                      refine wn_callV0n dX8_takesE_339 rRX8_204 (rcv_of o40 rfl) (Nat.le_of_ble_eq_true rfl)  (Nat.le_of_ble_eq_true rfl) rfl (c8_goZ (z := sgZ z (sgn T v)) hn hf ht h6 (h312.psh.z ⟨rfl, rfl, rfl, rfl, rfl, rfl⟩)) (fun s339 hq339 => ?_)
                      have h339 := hq339
                      refine wp_goto (t := 28) dX8_takesE_342 rfl ?_
                      have hsg := hI.sg hw0 (sgn_9 h245)
                      rw [← hsg.2]
                      rw [plp_s hcond (z' := sgZ z (sgn T v)) (by rw [eT, ev]; exact pst_G hw (fun q => absurd q.2.2 (by have := (nI_leI (b := 0) (by omega) (by decide)).mp h198; omega)) (fun q => q.elim h245 (fun q => absurd q.2 (bI_0.mp h263))))]
                      exact ih _ _ _ _ (by omega) hgf.2 h339 (hsg.1.le (by omega)) _
                    · refine wp_iload dX8_takesE_282 rfl rfl ?_
                      refine wn_callS1d dX8_takesE_284 rRX8_210 (Nat.le_of_ble_eq_true rfl) rfl (Nat.le_of_ble_eq_true rfl) rfl (c8_rank) ?_
                      refine wp_iconst (v := 3) dX8_takesE_287 (by decide) rfl ?_
                      refine wp_icmp_le (t := 304) dX8_takesE_288 rfl rfl (fun h288 => ?_) (fun h288 => ?_)
                      · refine wp_iconst (v := 0) dX8_takesE_304 (by decide) rfl ?_
                        refine wn_zast dX8_takesE_305 o43 rfl (nIx rfl (by omega)) (show zp z < 10 by omega) rfl ?_
                        rw [show vp_nar .boolean 0 = 0 from rfl]
                        have hte := h.zj.te (k := zp z) (v := 0) (b := (decide (rnk (sgn T v) = 3) || (decide (3 < rnk (sgn T v)) && zte z (zp z)))) (by rw [show (decide (rnk (sgn T v) = 3) || (decide (3 < rnk (sgn T v)) && zte z (zp z))) = false from by rw [decide_eq_false h279, decide_eq_false (Int32.not_lt.mpr h288)]; rfl]; rfl)
                        refine wp_aload_n dX8_takesE_306 rfl rfl ?_
                        refine wp_iload dX8_takesE_307 rfl rfl ?_
                        refine wn_callS1d dX8_takesE_309 rRX8_210 (Nat.le_of_ble_eq_true rfl) rfl (Nat.le_of_ble_eq_true rfl) rfl (c8_rank) ?_
                        refine wn_callV1n dX8_takesE_312 rRX8_222 (rcv_of o40 rfl) (Nat.le_of_ble_eq_true rfl) rfl (Nat.le_of_ble_eq_true rfl) rfl (c8_setZ (z := stZ z (zp z) (decide (rnk (sgn T v) = 3) || (decide (3 < rnk (sgn T v)) && zte z (zp z)))) (ls := rnk (sgn T v)) (show zc z + zh z ≤ 96 by omega) hte) (fun s312 hq312 => ?_)
                        have h312 := hq312
                        have hcs := sz_c (z := stZ z (zp z) (decide (rnk (sgn T v) = 3) || (decide (3 < rnk (sgn T v)) && zte z (zp z)))) (ls := rnk (sgn T v))
                        have hcs2 : zc (stZ z (zp z) (decide (rnk (sgn T v) = 3) || (decide (3 < rnk (sgn T v)) && zte z (zp z)))) + zh (stZ z (zp z) (decide (rnk (sgn T v) = 3) || (decide (3 < rnk (sgn T v)) && zte z (zp z)))) = zc z + zh z := rfl
                        refine wp_aload_n dX8_takesE_315 rfl rfl ?_
                        refine wn_getR dX8_takesE_316 fRX8_35 o40 rfl rfl rfl ?_
                        refine wp_aload_n dX8_takesE_319 rfl rfl ?_
                        refine wn_getI dX8_takesE_320 fRX8_207 o40 rfl rfl ?_
                        rw [h312.1.2.2.2.1]
                        refine wp_iload dX8_takesE_323 rfl rfl ?_
                        refine wn_iast dX8_takesE_325 (o41 8 rfl) rfl (nIx rfl (by omega)) (show zh (sz (stZ z (zp z) (decide (rnk (sgn T v) = 3) || (decide (3 < rnk (sgn T v)) && zte z (zp z)))) (rnk (sgn T v))) < 96 by omega) rfl ?_
                        refine wp_aload_n dX8_takesE_326 rfl rfl ?_
                        refine wp_dup dX8_takesE_327 rfl rfl ?_
                        refine wn_getI dX8_takesE_328 fRX8_207 o40 rfl rfl ?_
                        rw [sI_nr (by decide), h312.1.2.2.2.1]
                        refine wp_iconst (v := 1) dX8_takesE_331 (by decide) rfl ?_
                        refine wp_iadd dX8_takesE_332 rfl ?_
                        rw [nI_1]
                        refine wn_putI dX8_takesE_333 fRX8_207 o40 rfl rfl rfl ?_
                        refine wp_iconst (v := 1) dX8_takesE_336 (by decide) rfl ?_
                        refine wp_istore_n (l' := [_, _, _, some _, _]) dX8_takesE_337 rfl rfl ?_
                        refine wp_aload_n dX8_takesE_338 rfl rfl ?_
                        refine wn_callV0n dX8_takesE_339 rRX8_204 (rcv_of o40 rfl) (Nat.le_of_ble_eq_true rfl)  (Nat.le_of_ble_eq_true rfl) rfl (c8_goZ (z := sgZ z (sgn T v)) hn hf ht h6 (h312.psh.z ⟨rfl, rfl, rfl, rfl, rfl, rfl⟩)) (fun s339 hq339 => ?_)
                        have h339 := hq339
                        refine wp_goto (t := 28) dX8_takesE_342 rfl ?_
                        have hsg := hI.sg hw0 (sgn_9 h245)
                        rw [← hsg.2]
                        rw [plp_s hcond (z' := sgZ z (sgn T v)) (by rw [eT, ev]; exact pst_G hw (fun q => absurd q.2.2 (by have := (nI_leI (b := 0) (by omega) (by decide)).mp h198; omega)) (fun q => q.elim h245 (fun q => absurd q.2 (bI_0.mp h263))))]
                        exact ih _ _ _ _ (by omega) hgf.2 h339 (hsg.1.le (by omega)) _
                      · refine wp_aload_n dX8_takesE_291 rfl rfl ?_
                        refine wn_getR dX8_takesE_292 fRX8_38 o40 rfl rfl rfl ?_
                        refine wp_iload_n dX8_takesE_295 rfl rfl ?_
                        refine wn_zald dX8_takesE_296 o43 rfl (nIx rfl (by omega)) (show zp z < 10 by omega) rfl ?_
                        rw [a6 (zp z) hp8]
                        refine wp_if_eq (t := 304) dX8_takesE_297 rfl rfl (fun h297 => ?_) (fun h297 => ?_)
                        · refine wp_iconst (v := 0) dX8_takesE_304 (by decide) rfl ?_
                          refine wn_zast dX8_takesE_305 o43 rfl (nIx rfl (by omega)) (show zp z < 10 by omega) rfl ?_
                          rw [show vp_nar .boolean 0 = 0 from rfl]
                          have hte := h.zj.te (k := zp z) (v := 0) (b := (decide (rnk (sgn T v) = 3) || (decide (3 < rnk (sgn T v)) && zte z (zp z)))) (by rw [show (decide (rnk (sgn T v) = 3) || (decide (3 < rnk (sgn T v)) && zte z (zp z))) = false from by rw [decide_eq_false h279, Bool.eq_false_iff.mpr (bI_0.mp h297), Bool.and_false]; rfl]; rfl)
                          refine wp_aload_n dX8_takesE_306 rfl rfl ?_
                          refine wp_iload dX8_takesE_307 rfl rfl ?_
                          refine wn_callS1d dX8_takesE_309 rRX8_210 (Nat.le_of_ble_eq_true rfl) rfl (Nat.le_of_ble_eq_true rfl) rfl (c8_rank) ?_
                          refine wn_callV1n dX8_takesE_312 rRX8_222 (rcv_of o40 rfl) (Nat.le_of_ble_eq_true rfl) rfl (Nat.le_of_ble_eq_true rfl) rfl (c8_setZ (z := stZ z (zp z) (decide (rnk (sgn T v) = 3) || (decide (3 < rnk (sgn T v)) && zte z (zp z)))) (ls := rnk (sgn T v)) (show zc z + zh z ≤ 96 by omega) hte) (fun s312 hq312 => ?_)
                          have h312 := hq312
                          have hcs := sz_c (z := stZ z (zp z) (decide (rnk (sgn T v) = 3) || (decide (3 < rnk (sgn T v)) && zte z (zp z)))) (ls := rnk (sgn T v))
                          have hcs2 : zc (stZ z (zp z) (decide (rnk (sgn T v) = 3) || (decide (3 < rnk (sgn T v)) && zte z (zp z)))) + zh (stZ z (zp z) (decide (rnk (sgn T v) = 3) || (decide (3 < rnk (sgn T v)) && zte z (zp z)))) = zc z + zh z := rfl
                          refine wp_aload_n dX8_takesE_315 rfl rfl ?_
                          refine wn_getR dX8_takesE_316 fRX8_35 o40 rfl rfl rfl ?_
                          refine wp_aload_n dX8_takesE_319 rfl rfl ?_
                          refine wn_getI dX8_takesE_320 fRX8_207 o40 rfl rfl ?_
                          rw [h312.1.2.2.2.1]
                          refine wp_iload dX8_takesE_323 rfl rfl ?_
                          refine wn_iast dX8_takesE_325 (o41 8 rfl) rfl (nIx rfl (by omega)) (show zh (sz (stZ z (zp z) (decide (rnk (sgn T v) = 3) || (decide (3 < rnk (sgn T v)) && zte z (zp z)))) (rnk (sgn T v))) < 96 by omega) rfl ?_
                          refine wp_aload_n dX8_takesE_326 rfl rfl ?_
                          refine wp_dup dX8_takesE_327 rfl rfl ?_
                          refine wn_getI dX8_takesE_328 fRX8_207 o40 rfl rfl ?_
                          rw [sI_nr (by decide), h312.1.2.2.2.1]
                          refine wp_iconst (v := 1) dX8_takesE_331 (by decide) rfl ?_
                          refine wp_iadd dX8_takesE_332 rfl ?_
                          rw [nI_1]
                          refine wn_putI dX8_takesE_333 fRX8_207 o40 rfl rfl rfl ?_
                          refine wp_iconst (v := 1) dX8_takesE_336 (by decide) rfl ?_
                          refine wp_istore_n (l' := [_, _, _, some _, _]) dX8_takesE_337 rfl rfl ?_
                          refine wp_aload_n dX8_takesE_338 rfl rfl ?_
                          refine wn_callV0n dX8_takesE_339 rRX8_204 (rcv_of o40 rfl) (Nat.le_of_ble_eq_true rfl)  (Nat.le_of_ble_eq_true rfl) rfl (c8_goZ (z := sgZ z (sgn T v)) hn hf ht h6 (h312.psh.z ⟨rfl, rfl, rfl, rfl, rfl, rfl⟩)) (fun s339 hq339 => ?_)
                          have h339 := hq339
                          refine wp_goto (t := 28) dX8_takesE_342 rfl ?_
                          have hsg := hI.sg hw0 (sgn_9 h245)
                          rw [← hsg.2]
                          rw [plp_s hcond (z' := sgZ z (sgn T v)) (by rw [eT, ev]; exact pst_G hw (fun q => absurd q.2.2 (by have := (nI_leI (b := 0) (by omega) (by decide)).mp h198; omega)) (fun q => q.elim h245 (fun q => absurd q.2 (bI_0.mp h263))))]
                          exact ih _ _ _ _ (by omega) hgf.2 h339 (hsg.1.le (by omega)) _
                        · refine wp_iconst (v := 1) dX8_takesE_300 (by decide) rfl ?_
                          refine wp_goto (t := 305) dX8_takesE_301 rfl ?_
                          refine wn_zast dX8_takesE_305 o43 rfl (nIx rfl (by omega)) (show zp z < 10 by omega) rfl ?_
                          rw [show vp_nar .boolean 1 = 1 from rfl]
                          have hte := h.zj.te (k := zp z) (v := 1) (b := (decide (rnk (sgn T v) = 3) || (decide (3 < rnk (sgn T v)) && zte z (zp z)))) (by rw [show (decide (rnk (sgn T v) = 3) || (decide (3 < rnk (sgn T v)) && zte z (zp z))) = true from by rw [decide_eq_false h279, decide_eq_true (Int32.not_le.mp h288), show zte z (zp z) = true from Decidable.not_not.mp (fun q => h297 (bI_0.mpr q))]; rfl]; rfl)
                          refine wp_aload_n dX8_takesE_306 rfl rfl ?_
                          refine wp_iload dX8_takesE_307 rfl rfl ?_
                          refine wn_callS1d dX8_takesE_309 rRX8_210 (Nat.le_of_ble_eq_true rfl) rfl (Nat.le_of_ble_eq_true rfl) rfl (c8_rank) ?_
                          refine wn_callV1n dX8_takesE_312 rRX8_222 (rcv_of o40 rfl) (Nat.le_of_ble_eq_true rfl) rfl (Nat.le_of_ble_eq_true rfl) rfl (c8_setZ (z := stZ z (zp z) (decide (rnk (sgn T v) = 3) || (decide (3 < rnk (sgn T v)) && zte z (zp z)))) (ls := rnk (sgn T v)) (show zc z + zh z ≤ 96 by omega) hte) (fun s312 hq312 => ?_)
                          have h312 := hq312
                          have hcs := sz_c (z := stZ z (zp z) (decide (rnk (sgn T v) = 3) || (decide (3 < rnk (sgn T v)) && zte z (zp z)))) (ls := rnk (sgn T v))
                          have hcs2 : zc (stZ z (zp z) (decide (rnk (sgn T v) = 3) || (decide (3 < rnk (sgn T v)) && zte z (zp z)))) + zh (stZ z (zp z) (decide (rnk (sgn T v) = 3) || (decide (3 < rnk (sgn T v)) && zte z (zp z)))) = zc z + zh z := rfl
                          refine wp_aload_n dX8_takesE_315 rfl rfl ?_
                          refine wn_getR dX8_takesE_316 fRX8_35 o40 rfl rfl rfl ?_
                          refine wp_aload_n dX8_takesE_319 rfl rfl ?_
                          refine wn_getI dX8_takesE_320 fRX8_207 o40 rfl rfl ?_
                          rw [h312.1.2.2.2.1]
                          refine wp_iload dX8_takesE_323 rfl rfl ?_
                          refine wn_iast dX8_takesE_325 (o41 8 rfl) rfl (nIx rfl (by omega)) (show zh (sz (stZ z (zp z) (decide (rnk (sgn T v) = 3) || (decide (3 < rnk (sgn T v)) && zte z (zp z)))) (rnk (sgn T v))) < 96 by omega) rfl ?_
                          refine wp_aload_n dX8_takesE_326 rfl rfl ?_
                          refine wp_dup dX8_takesE_327 rfl rfl ?_
                          refine wn_getI dX8_takesE_328 fRX8_207 o40 rfl rfl ?_
                          rw [sI_nr (by decide), h312.1.2.2.2.1]
                          refine wp_iconst (v := 1) dX8_takesE_331 (by decide) rfl ?_
                          refine wp_iadd dX8_takesE_332 rfl ?_
                          rw [nI_1]
                          refine wn_putI dX8_takesE_333 fRX8_207 o40 rfl rfl rfl ?_
                          refine wp_iconst (v := 1) dX8_takesE_336 (by decide) rfl ?_
                          refine wp_istore_n (l' := [_, _, _, some _, _]) dX8_takesE_337 rfl rfl ?_
                          refine wp_aload_n dX8_takesE_338 rfl rfl ?_
                          refine wn_callV0n dX8_takesE_339 rRX8_204 (rcv_of o40 rfl) (Nat.le_of_ble_eq_true rfl)  (Nat.le_of_ble_eq_true rfl) rfl (c8_goZ (z := sgZ z (sgn T v)) hn hf ht h6 (h312.psh.z ⟨rfl, rfl, rfl, rfl, rfl, rfl⟩)) (fun s339 hq339 => ?_)
                          have h339 := hq339
                          refine wp_goto (t := 28) dX8_takesE_342 rfl ?_
                          have hsg := hI.sg hw0 (sgn_9 h245)
                          rw [← hsg.2]
                          rw [plp_s hcond (z' := sgZ z (sgn T v)) (by rw [eT, ev]; exact pst_G hw (fun q => absurd q.2.2 (by have := (nI_leI (b := 0) (by omega) (by decide)).mp h198; omega)) (fun q => q.elim h245 (fun q => absurd q.2 (bI_0.mp h263))))]
                          exact ih _ _ _ _ (by omega) hgf.2 h339 (hsg.1.le (by omega)) _
                  · refine wp_iconst (v := 0) dX8_takesE_266 (by decide) rfl ?_
                    refine wp_iret dX8_takesE_267 rfl (by decide) ?_
                    refine ⟨_, _, rfl, rfl, ?_⟩
                    rw [plp_n hcond (by rw [eT, ev]; exact pst_F hw (fun q => absurd q.2.2 (by have := (nI_leI (b := 0) (by omega) (by decide)).mp h198; omega)) (Or.inr ⟨h254, Decidable.not_not.mp (fun q => h263 (bI_0.mpr q))⟩))]
                    exact ⟨rfl, h.1, h.2.1.1, h.2.2⟩
            · have hP : 0 < zp z := by have := mt (nI_leI (b := 0) (by omega) (by decide)).mpr h198; omega
              obtain ⟨kk, k1, k2, k3⟩ := cl_h hI hP
              refine wp_aload_n dX8_takesE_201 rfl rfl ?_
              refine wp_iconst (v := 0) dX8_takesE_202 (by decide) rfl ?_
              refine wn_callV1n dX8_takesE_203 rRX8_222 (rcv_of o40 rfl) (Nat.le_of_ble_eq_true rfl) rfl (Nat.le_of_ble_eq_true rfl) rfl (c8_setZ (z := z) (ls := 0) (by omega) h.zj) (fun s203 hq203 => ?_)
              have h203 := hq203
              refine wp_aload_n dX8_takesE_206 rfl rfl ?_
              refine wp_dup dX8_takesE_207 rfl rfl ?_
              refine wn_getI dX8_takesE_208 fRX8_207 o40 rfl rfl ?_
              rw [h203.1.2.2.2.1, k1]
              refine wp_iconst (v := 1) dX8_takesE_211 (by decide) rfl ?_
              refine wp_isub dX8_takesE_212 rfl ?_
              rw [nI_pred]
              refine wn_putI dX8_takesE_213 fRX8_207 o40 rfl rfl rfl ?_
              refine wp_iinc (l' := [_, some _, _, _, _]) (v := (-1)) dX8_takesE_216 rfl (by decide) rfl rfl ?_
              have hcc := sz_c (z := z) (ls := 0)
              have h213 : ZJ s0 tp n (hpZ (sz z 0) (zh (sz z 0) - 1) (zp z - 1)) f en (sI s203 (40, 0, 0) 19 (nI kk)) := by rw [show zh (sz z 0) - 1 = kk by omega]; exact h203.hp
              rw [m1a, show nI (zp z) - 1 = nI (zp z - 1) by rw [show nI (zp z) = nI ((zp z - 1) + 1) by rw [show zp z - 1 + 1 = zp z by omega], nI_pred]]
              refine wp_aload_n dX8_takesE_219 rfl rfl ?_
              refine wp_bipush (v := 6) dX8_takesE_220 (by decide) rfl ?_
              refine wn_callV1n dX8_takesE_222 rRX8_222 (rcv_of o40 rfl) (Nat.le_of_ble_eq_true rfl) rfl (Nat.le_of_ble_eq_true rfl) rfl (c8_setZ (ls := 6) (show zc (sz z 0) + (zh (sz z 0) - 1) ≤ 96 by omega) h213) (fun s222 hq222 => ?_)
              have h222 := hq222
              refine wp_aload_n dX8_takesE_225 rfl rfl ?_
              refine wn_callV0d dX8_takesE_226 rRX8_229 (rcv_of o40 rfl) (Nat.le_of_ble_eq_true rfl)  (Nat.le_of_ble_eq_true rfl) rfl (c8_notsOpen (wf := zwf (clZ z)) (h := zh (clZ z)) h222.1.2.1 h222.1.2.2.2.1 (by have := (hI.cl hw0 hP).1; omega)) ?_
              refine wp_istore_n (l' := [_, _, some _, _, _]) dX8_takesE_229 rfl rfl ?_
              refine wp_aload_n dX8_takesE_230 rfl rfl ?_
              refine wn_callV0n dX8_takesE_231 rRX8_204 (rcv_of o40 rfl) (Nat.le_of_ble_eq_true rfl)  (Nat.le_of_ble_eq_true rfl) rfl (c8_goZ (z := clZ z) hn hf ht h6 h222) (fun s231 hq231 => ?_)
              have h231 := hq231
              refine wp_goto (t := 28) dX8_takesE_234 rfl ?_
              rw [plp_s hcond (z' := clZ z) (by rw [eT, ev]; exact pst_E hw ⟨h185, h194, hP⟩)]
              exact ih _ _ _ _ (by omega) hgf.2 h231 ((hI.cl hw0 hP).le (by omega)) _
end
