/-! THE PURE PART, 64: what a text is, piece by piece -/
section
variable {d : Nat}
/-- how far a text is read: code, codes; waits, held; atoms; parens; tested; wants -/
abbrev PZ : Type := Fl × Nat × Fl × Nat × Nat × Nat × (Nat → Bool) × Bool
abbrev zcf (z : PZ) : Fl := z.1
abbrev zc (z : PZ) : Nat := z.2.1
abbrev zwf (z : PZ) : Fl := z.2.2.1
abbrev zh (z : PZ) : Nat := z.2.2.2.1
abbrev za (z : PZ) : Nat := z.2.2.2.2.1
abbrev zp (z : PZ) : Nat := z.2.2.2.2.2.1
abbrev zte (z : PZ) : Nat → Bool := z.2.2.2.2.2.2.1
abbrev zwt (z : PZ) : Bool := z.2.2.2.2.2.2.2
def tst (te : Nat → Bool) (k : Nat) (b : Bool) : Nat → Bool := fun q => if q = k then b else te q
def psh (z : PZ) (x : Int32) : PZ := (zcf z, zc z, upd (zwf z) (zh z) x, zh z + 1, za z, zp z, zte z, zwt z)
def stZ (z : PZ) (k : Nat) (b : Bool) : PZ := (zcf z, zc z, zwf z, zh z, za z, zp z, tst (zte z) k b, zwt z)
def hpZ (z : PZ) (k p : Nat) : PZ := (zcf z, zc z, zwf z, k, za z, p, zte z, zwt z)
def wtZ (z : PZ) (b : Bool) : PZ := (zcf z, zc z, zwf z, zh z, za z, zp z, zte z, b)
def opZ (z : PZ) : PZ := stZ (hpZ (psh z (-11)) (zh z + 1) (zp z + 1)) (zp z + 1) false
def sz (z : PZ) (ls : Int32) : PZ := ((stl (zwf z) ls (zh z) (zcf z) (zc z)).1, (stl (zwf z) ls (zh z) (zcf z) (zc z)).2.1, zwf z, (stl (zwf z) ls (zh z) (zcf z) (zc z)).2.2, za z, zp z, zte z, zwt z)
def cdZ (z : PZ) (x : Int32) : PZ := (upd (zcf z) (zc z) x, zc z + 1, zwf z, zh z, za z + 1, zp z, zte z, false)
def ptZ (z : PZ) (x : Int32) : PZ := sz (cdZ z x) 6
def clZ (z : PZ) : PZ := sz (hpZ (sz z 0) (zh (sz z 0) - 1) (zp z - 1)) 6
def sgZ (z : PZ) (g : Int32) : PZ := wtZ (psh (sz (stZ z (zp z) (decide (rnk g = 3) || (decide (3 < rnk g) && zte z (zp z)))) (rnk g)) g) true
/-- one piece more -/
def pst (key T v : Int32) (l : Nat) (z : PZ) : Option PZ :=
  if (zwt z) = true then
    if T = 3 ∧ v = 33 ∧ nts (zwf z) (zh z) < 8 then some (psh z (-10))
    else if T = 3 ∧ v = 40 ∧ (zp z) < 8 then some (opZ z)
    else if ptQ key T v l then some (ptZ z (ptC key T v))
    else none
  else if T = 3 ∧ v = 41 ∧ 0 < (zp z) then some (clZ z)
  else if sgn T v = 0 ∨ (rnk (sgn T v) = 3 ∧ (zte z) (zp z) = true) then none
  else some (sgZ z (sgn T v))
/-- all pieces, up to the end: whether all is one; where it stands -/
def plp (key : Int32) (tp : Fl) (n : Nat) : Nat → Nat → Int32 → PZ → Bool × Nat × PZ
  | 0, f, _, z => (false, f, z)
  | m + 1, f, en, z => if (zwt z) = false ∧ gT tp n f en = 0 then (decide ((zp z) = 0), f, sz z 0) else match pst key (gT tp n f en) (gV tp n f 0) (gN tp n f - f) z with
    | none => (false, f, z)
    | some z' => plp key tp n m (gF tp n (gN tp n f)) (gE tp n f en) z'
abbrev XZ : List Rf := [(41, 7, 0), (41, 8, 0), (40, 0, 0), (43, 0, 0)]
def ZR (z : PZ) (s : Sn) : Prop := s.1 (41, 7, 0) = (zcf z) ∧ s.1 (41, 8, 0) = (zwf z) ∧ s.1 (40, 0, 0) 16 = nI (zc z) ∧ s.1 (40, 0, 0) 19 = nI (zh z) ∧ s.1 (40, 0, 0) 17 = nI (za z) ∧ ∀ k, k ≤ 8 → s.1 (43, 0, 0) k = bI ((zte z) k = true)
abbrev oth (q : Nat) : Prop := ¬ (7 ≤ q ∧ q ≤ 11) ∧ q ≠ 16 ∧ q ≠ 17 ∧ q ≠ 19
def OT (s0 s : Sn) : Prop := (∀ q, oth q → s.1 (40, 0, 0) q = s0.1 (40, 0, 0) q) ∧ Fr XZ s0 s
def ZI (s0 : Sn) (tp : Fl) (n : Nat) (z : PZ) (f : Nat) (en : Int32) (s : Sn) : Prop := ZR z s ∧ TK tp n f en (s.1 (40, 0, 0)) ∧ OT s0 s
def ZJ (s0 : Sn) (tp : Fl) (n : Nat) (z : PZ) (f : Nat) (en : Int32) (s : Sn) : Prop := ZR z s ∧ (s.1 (40, 0, 0) 7 = nI (gN tp n f) ∧ s.1 (40, 0, 0) 11 = gE tp n f en) ∧ OT s0 s
theorem c8_goZ {s0 s : Sn} {tp : Fl} {n f : Nat} {en : Int32} {z : PZ} (hn : n ≤ 96) (hfn : f ≤ n) (ht : s0.1 (41, 4, 0) = tp) (h6 : s0.1 (40, 0, 0) 6 = nI n) (h : ZJ s0 tp n z f en s) : Ca (d + 1) MX8_go [vR 40 0 0] (hN s) (Pn fun t => ZI s0 tp n z (gF tp n (gN tp n f)) (gE tp n f en) t) := by
  obtain ⟨⟨a1, a2, a3, a4, a5, a6⟩, ⟨b1, b2⟩, c1, c2⟩ := h
  have hg := gN_le (tp := tp) hfn
  refine (c8_go (tp := tp) (n := n) (k := gN tp n f) hn hg.2.1 (by rw [c2.1 _ (by decide)]; exact ht) (by rw [c1 6 (by decide)]; exact h6) b1).conseq ?_
  rintro v σ ⟨t, rfl, rfl, g1, g2⟩
  have g3 := g1.tk
  rw [b2] at g3
  refine ⟨t, rfl, rfl, ⟨by rw [g2.1 _ (by decide)]; exact a1, by rw [g2.1 _ (by decide)]; exact a2, by rw [g1.2 16 (by decide)]; exact a3, by rw [g1.2 19 (by decide)]; exact a4, by rw [g1.2 17 (by decide)]; exact a5, fun k hk => by rw [g2.1 _ (by decide)]; exact a6 k hk⟩, g3, fun q hq => by rw [g1.2 q hq.1]; exact c1 q hq, c2.tr (g2.wd (by decide))⟩
theorem c8_setZ {s0 s : Sn} {tp : Fl} {n f : Nat} {en ls : Int32} {z : PZ} (hl : (zc z) + (zh z) ≤ 96) (h : ZJ s0 tp n z f en s) : Ca (d + 1) MX8_settle [vR 40 0 0, vI ls] (hN s) (Pn fun t => ZJ s0 tp n (sz z ls) f en t) := by
  obtain ⟨⟨a1, a2, a3, a4, a5, a6⟩, ⟨b1, b2⟩, c1, c2⟩ := h
  refine (c8_settle (ls := ls) a2 a1 a3 a4 hl).conseq ?_
  rintro v σ ⟨t, rfl, rfl, q1, q2, q3⟩
  refine ⟨t, rfl, rfl, ⟨q1, by rw [q3.1 _ (by decide)]; exact a2, by rw [q2, SE_16]; rfl, by rw [q2, SE_19]; rfl, by rw [q2, SE_o (by decide) (by decide)]; exact a5, fun k hk => by rw [q3.1 _ (by decide)]; exact a6 k hk⟩, ⟨by rw [q2, SE_o (by decide) (by decide)]; exact b1, by rw [q2, SE_o (by decide) (by decide)]; exact b2⟩, fun q hq => by rw [q2, SE_o hq.2.1 hq.2.2.2]; exact c1 q hq, c2.tr (q3.wd (by decide))⟩
theorem ZI.zj {s0 s : Sn} {tp : Fl} {n f : Nat} {en : Int32} {z : PZ} (h : ZI s0 tp n z f en s) : ZJ s0 tp n z f en s := ⟨h.1, ⟨h.2.1.2.1, h.2.1.2.2.2.2⟩, h.2.2⟩
/-- a sign comes to those that wait -/
theorem ZJ.psh {s0 s : Sn} {tp : Fl} {n f : Nat} {en x : Int32} {z : PZ} (h : ZJ s0 tp n z f en s) : ZJ s0 tp n (psh z x) f en (sI (sI s (41, 8, 0) (zh z) x) (40, 0, 0) 19 (nI ((zh z) + 1))) := by
  obtain ⟨⟨a1, a2, a3, a4, a5, a6⟩, ⟨b1, b2⟩, c1, c2⟩ := h
  refine ⟨⟨?_, ?_, ?_, ?_, ?_, fun k hk => ?_⟩, ⟨?_, ?_⟩, fun q hq => ?_, (c2.pt (by decide)).pt (by decide)⟩
  · rw [sI_nr (by decide), sI_nr (by decide)]; exact a1
  · rw [sI_nr (by decide), sI_row, a2]; rfl
  · rw [sI_nk (by decide), sI_nr (by decide)]; exact a3
  · rw [sI_row, upd_eq]; rfl
  · rw [sI_nk (by decide), sI_nr (by decide)]; exact a5
  · rw [sI_nr (by decide), sI_nr (by decide)]; exact a6 k hk
  · rw [sI_nk (by decide), sI_nr (by decide)]; exact b1
  · rw [sI_nk (by decide), sI_nr (by decide)]; exact b2
  · rw [sI_nk hq.2.2.2, sI_nr (by decide)]; exact c1 q hq
/-- a piece comes to the code -/
theorem ZJ.cd {s0 s : Sn} {tp : Fl} {n f : Nat} {en x : Int32} {z : PZ} (h : ZJ s0 tp n z f en s) : ZJ s0 tp n (cdZ z x) f en (sI (sI (sI s (41, 7, 0) (zc z) x) (40, 0, 0) 16 (nI ((zc z) + 1))) (40, 0, 0) 17 (nI ((za z) + 1))) := by
  obtain ⟨⟨a1, a2, a3, a4, a5, a6⟩, ⟨b1, b2⟩, c1, c2⟩ := h
  refine ⟨⟨?_, ?_, ?_, ?_, ?_, fun k hk => ?_⟩, ⟨?_, ?_⟩, fun q hq => ?_, ((c2.pt (by decide)).pt (by decide)).pt (by decide)⟩
  · rw [sI_nr (by decide), sI_nr (by decide), sI_row, a1]; rfl
  · rw [sI_nr (by decide), sI_nr (by decide), sI_nr (by decide)]; exact a2
  · rw [sI_nk (by decide), sI_row, upd_eq]; rfl
  · rw [sI_nk (by decide), sI_nk (by decide), sI_nr (by decide)]; exact a4
  · rw [sI_row, upd_eq]; rfl
  · rw [sI_nr (by decide), sI_nr (by decide), sI_nr (by decide)]; exact a6 k hk
  · rw [sI_nk (by decide), sI_nk (by decide), sI_nr (by decide)]; exact b1
  · rw [sI_nk (by decide), sI_nk (by decide), sI_nr (by decide)]; exact b2
  · rw [sI_nk hq.2.2.1, sI_nk hq.2.1, sI_nr (by decide)]; exact c1 q hq
theorem ptZ_e {z : PZ} {x : Int32} : sz (cdZ z x) 6 = ptZ z x := rfl
theorem tst_bI {te : Nat → Bool} {g : Fl} {k : Nat} {b : Bool} {v : Int32} (h : ∀ q, q ≤ 8 → g q = bI (te q = true)) (hv : v = bI (b = true)) : ∀ q, q ≤ 8 → upd g k v q = bI (tst te k b q = true) := fun q hq => by
  unfold tst
  by_cases e : q = k
  · rw [e, upd_eq, if_pos rfl]; exact hv
  · rw [upd_ne e, if_neg e]; exact h q hq
/-- a mark of tests -/
theorem ZJ.te {s0 s : Sn} {tp : Fl} {n f k : Nat} {en v : Int32} {b : Bool} {z : PZ} (h : ZJ s0 tp n z f en s) (hv : v = bI (b = true)) : ZJ s0 tp n (stZ z k b) f en (sI s (43, 0, 0) k v) := by
  obtain ⟨⟨a1, a2, a3, a4, a5, a6⟩, ⟨b1, b2⟩, c1, c2⟩ := h
  refine ⟨⟨?_, ?_, ?_, ?_, ?_, fun q hq => ?_⟩, ⟨?_, ?_⟩, fun q hq => ?_, c2.pt (by decide)⟩
  · rw [sI_nr (by decide)]; exact a1
  · rw [sI_nr (by decide)]; exact a2
  · rw [sI_nr (by decide)]; exact a3
  · rw [sI_nr (by decide)]; exact a4
  · rw [sI_nr (by decide)]; exact a5
  · rw [sI_row]; exact tst_bI a6 hv q hq
  · rw [sI_nr (by decide)]; exact b1
  · rw [sI_nr (by decide)]; exact b2
  · rw [sI_nr (by decide)]; exact c1 q hq
/-- how many are held, and parens -/
theorem ZJ.hp {s0 s : Sn} {tp : Fl} {n f k p : Nat} {en : Int32} {z : PZ} (h : ZJ s0 tp n z f en s) : ZJ s0 tp n (hpZ z k p) f en (sI s (40, 0, 0) 19 (nI k)) := by
  obtain ⟨⟨a1, a2, a3, a4, a5, a6⟩, ⟨b1, b2⟩, c1, c2⟩ := h
  refine ⟨⟨?_, ?_, ?_, ?_, ?_, fun q hq => ?_⟩, ⟨?_, ?_⟩, fun q hq => ?_, c2.pt (by decide)⟩
  · rw [sI_nr (by decide)]; exact a1
  · rw [sI_nr (by decide)]; exact a2
  · rw [sI_nk (by decide)]; exact a3
  · rw [sI_row, upd_eq]; rfl
  · rw [sI_nk (by decide)]; exact a5
  · rw [sI_nr (by decide)]; exact a6 q hq
  · rw [sI_nk (by decide)]; exact b1
  · rw [sI_nk (by decide)]; exact b2
  · rw [sI_nk hq.2.2.2]; exact c1 q hq
theorem ZJ.z {s0 s : Sn} {tp : Fl} {n f : Nat} {en : Int32} {z z' : PZ} (h : ZJ s0 tp n z f en s) (e : zcf z' = zcf z ∧ zc z' = zc z ∧ zwf z' = zwf z ∧ zh z' = zh z ∧ za z' = za z ∧ zte z' = zte z) : ZJ s0 tp n z' f en s := by
  obtain ⟨⟨a1, a2, a3, a4, a5, a6⟩, hb, hc⟩ := h
  obtain ⟨e1, e2, e3, e4, e5, e6⟩ := e
  exact ⟨⟨by rw [e1]; exact a1, by rw [e3]; exact a2, by rw [e2]; exact a3, by rw [e4]; exact a4, by rw [e5]; exact a5, by rw [e6]; exact a6⟩, hb, hc⟩
theorem sz_c {z : PZ} {ls : Int32} : zc (sz z ls) + zh (sz z ls) = zc z + zh z ∧ zh (sz z ls) ≤ zh z := ⟨(stl_c (zh z) (zcf z) (zc z)).1, (stl_c (zh z) (zcf z) (zc z)).2.1⟩
theorem c8_takesPart {s0 s : Sn} {tp : Fl} {n f : Nat} {en key T v x : Int32} {z : PZ} (hn : n ≤ 96) (hfn : f ≤ n) (ht : s0.1 (41, 4, 0) = tp) (h6 : s0.1 (40, 0, 0) 6 = nI n) (h12 : s0.1 (40, 0, 0) 12 = key) (h : ZI s0 tp n z f en s) (eT : gT tp n f en = T) (ev : s.1 (40, 0, 0) 10 = v) (hx : ptC key T v = x) (hq : ptQ key T v (gN tp n f - f)) (hl : (zc z) + 1 + (zh z) ≤ 96) : Ca (d + 2) MX8_takesPart [vR 40 0 0] (hN s) (Pv fun y t => y = 1 ∧ ZI s0 tp n (ptZ z x) (gF tp n (gN tp n f)) (gE tp n f en) t) := by
  change Wp _ _ 0 [some _, none] [] _ _
  have hgn := gN_le (tp := tp) hfn
  have hT := h.2.1
  have e9 : s.1 (40, 0, 0) 9 = T := hT.2.2.1.trans eT
  have e12 : s.1 (40, 0, 0) 12 = key := (h.2.2.1 12 (by decide)).trans h12
  obtain ⟨a1, a2, a3, a4, a5, a6⟩ := h.1
  refine wp_aload_n dX8_takesPart_0 rfl rfl ?_
  refine wn_getI dX8_takesPart_1 fRX8_189 o40 rfl rfl ?_
  rw [e9]
  refine wp_iconst (v := 1) dX8_takesPart_4 (by decide) rfl ?_
  refine wp_icmp_ne (t := 36) dX8_takesPart_5 rfl rfl (fun h5 => ?_) (fun h5 => ?_)
  · refine wp_iconst (v := 0) dX8_takesPart_36 (by decide) rfl ?_
    refine wp_istore_n (l' := [_, some _]) dX8_takesPart_37 rfl rfl ?_
    refine wp_aload_n dX8_takesPart_38 rfl rfl ?_
    refine wn_getI dX8_takesPart_39 fRX8_189 o40 rfl rfl ?_
    rw [e9]
    refine wp_iconst (v := 2) dX8_takesPart_42 (by decide) rfl ?_
    refine wp_icmp_eq (t := 52) dX8_takesPart_43 rfl rfl (fun h43 => ?_) (fun h43 => ?_)
    · refine wp_aload_n dX8_takesPart_52 rfl rfl ?_
      refine wn_getR dX8_takesPart_53 fRX8_32 o40 rfl rfl rfl ?_
      refine wp_aload_n dX8_takesPart_56 rfl rfl ?_
      refine wn_getI dX8_takesPart_57 fRX8_213 o40 rfl rfl ?_
      rw [a3]
      refine wp_aload_n dX8_takesPart_60 rfl rfl ?_
      refine wn_getI dX8_takesPart_61 fRX8_189 o40 rfl rfl ?_
      rw [e9]
      refine wp_iconst (v := 2) dX8_takesPart_64 (by decide) rfl ?_
      refine wp_icmp_ne (t := 75) dX8_takesPart_65 rfl rfl (fun h65 => ?_) (fun h65 => ?_)
      · refine wp_sipush (v := 10000) dX8_takesPart_75 (by decide) rfl ?_
        refine wp_aload_n dX8_takesPart_78 rfl rfl ?_
        refine wp_aload_n dX8_takesPart_79 rfl rfl ?_
        refine wn_getI dX8_takesPart_80 fRX8_195 o40 rfl rfl ?_
        rw [ev]
        refine wn_callV1d dX8_takesPart_83 rRX8_216 (rcv_of o40 rfl) (Nat.le_of_ble_eq_true rfl) rfl (Nat.le_of_ble_eq_true rfl) rfl (c8_nameOf) ?_
        rw [e12]
        refine wp_iadd dX8_takesPart_86 rfl ?_
        rw [show 10000 + nmO key v = x from (if_neg h65).symm.trans hx]
        refine wn_iast dX8_takesPart_87 (o41 7 rfl) rfl (nIx rfl (by omega)) (show (zc z) < 96 by omega) rfl ?_
        refine wp_aload_n dX8_takesPart_88 rfl rfl ?_
        refine wp_dup dX8_takesPart_89 rfl rfl ?_
        refine wn_getI dX8_takesPart_90 fRX8_213 o40 rfl rfl ?_
        rw [sI_nr (by decide), a3]
        refine wp_iconst (v := 1) dX8_takesPart_93 (by decide) rfl ?_
        refine wp_iadd dX8_takesPart_94 rfl ?_
        rw [nI_1]
        refine wn_putI dX8_takesPart_95 fRX8_213 o40 rfl rfl rfl ?_
        refine wp_aload_n dX8_takesPart_98 rfl rfl ?_
        refine wp_dup dX8_takesPart_99 rfl rfl ?_
        refine wn_getI dX8_takesPart_100 fRX8_219 o40 rfl rfl ?_
        rw [sI_nk (by decide), sI_nr (by decide), a5]
        refine wp_iconst (v := 1) dX8_takesPart_103 (by decide) rfl ?_
        refine wp_iadd dX8_takesPart_104 rfl ?_
        rw [nI_1]
        refine wn_putI dX8_takesPart_105 fRX8_219 o40 rfl rfl rfl ?_
        refine wp_aload_n dX8_takesPart_108 rfl rfl ?_
        refine wp_bipush (v := 6) dX8_takesPart_109 (by decide) rfl ?_
        refine wn_callV1n dX8_takesPart_111 rRX8_222 (rcv_of o40 rfl) (Nat.le_of_ble_eq_true rfl) rfl (Nat.le_of_ble_eq_true rfl) rfl (c8_setZ (z := cdZ z x) (ls := 6) hl h.zj.cd) (fun s111 hq111 => ?_)
        have h111 := hq111
        refine wp_aload_n dX8_takesPart_114 rfl rfl ?_
        refine wn_callV0n dX8_takesPart_115 rRX8_204 (rcv_of o40 rfl) (Nat.le_of_ble_eq_true rfl)  (Nat.le_of_ble_eq_true rfl) rfl (c8_goZ hn hfn ht h6 h111) (fun s115 hq115 => ?_)
        have h115 := hq115
        refine wp_iconst (v := 1) dX8_takesPart_118 (by decide) rfl ?_
        refine wp_iret dX8_takesPart_119 rfl (by decide) ?_
        exact ⟨_, _, rfl, rfl, rfl, h115⟩
      · refine wp_aload_n dX8_takesPart_68 rfl rfl ?_
        refine wn_getI dX8_takesPart_69 fRX8_195 o40 rfl rfl ?_
        rw [ev]
        refine wp_goto (t := 87) dX8_takesPart_72 rfl ?_
        rw [show v = x from (if_pos h65).symm.trans hx]
        refine wn_iast dX8_takesPart_87 (o41 7 rfl) rfl (nIx rfl (by omega)) (show (zc z) < 96 by omega) rfl ?_
        refine wp_aload_n dX8_takesPart_88 rfl rfl ?_
        refine wp_dup dX8_takesPart_89 rfl rfl ?_
        refine wn_getI dX8_takesPart_90 fRX8_213 o40 rfl rfl ?_
        rw [sI_nr (by decide), a3]
        refine wp_iconst (v := 1) dX8_takesPart_93 (by decide) rfl ?_
        refine wp_iadd dX8_takesPart_94 rfl ?_
        rw [nI_1]
        refine wn_putI dX8_takesPart_95 fRX8_213 o40 rfl rfl rfl ?_
        refine wp_aload_n dX8_takesPart_98 rfl rfl ?_
        refine wp_dup dX8_takesPart_99 rfl rfl ?_
        refine wn_getI dX8_takesPart_100 fRX8_219 o40 rfl rfl ?_
        rw [sI_nk (by decide), sI_nr (by decide), a5]
        refine wp_iconst (v := 1) dX8_takesPart_103 (by decide) rfl ?_
        refine wp_iadd dX8_takesPart_104 rfl ?_
        rw [nI_1]
        refine wn_putI dX8_takesPart_105 fRX8_219 o40 rfl rfl rfl ?_
        refine wp_aload_n dX8_takesPart_108 rfl rfl ?_
        refine wp_bipush (v := 6) dX8_takesPart_109 (by decide) rfl ?_
        refine wn_callV1n dX8_takesPart_111 rRX8_222 (rcv_of o40 rfl) (Nat.le_of_ble_eq_true rfl) rfl (Nat.le_of_ble_eq_true rfl) rfl (c8_setZ (z := cdZ z x) (ls := 6) hl h.zj.cd) (fun s111 hq111 => ?_)
        have h111 := hq111
        refine wp_aload_n dX8_takesPart_114 rfl rfl ?_
        refine wn_callV0n dX8_takesPart_115 rRX8_204 (rcv_of o40 rfl) (Nat.le_of_ble_eq_true rfl)  (Nat.le_of_ble_eq_true rfl) rfl (c8_goZ hn hfn ht h6 h111) (fun s115 hq115 => ?_)
        have h115 := hq115
        refine wp_iconst (v := 1) dX8_takesPart_118 (by decide) rfl ?_
        refine wp_iret dX8_takesPart_119 rfl (by decide) ?_
        exact ⟨_, _, rfl, rfl, rfl, h115⟩
    · refine wp_iload_n dX8_takesPart_46 rfl rfl ?_
      refine wp_if_ne (t := 52) dX8_takesPart_47 rfl rfl (fun h47 => absurd rfl h47) (fun h47 => ?_)
      refine wp_iconst (v := 0) dX8_takesPart_50 (by decide) rfl ?_
      refine wp_iret dX8_takesPart_51 rfl (by decide) ?_
      exact (hq.elim h43 (fun z => h5 z.1)).elim
  · refine wp_aload_n dX8_takesPart_8 rfl rfl ?_
    refine wn_getI dX8_takesPart_9 fRX8_180 o40 rfl rfl ?_
    rw [hT.2.1]
    refine wp_aload_n dX8_takesPart_12 rfl rfl ?_
    refine wn_getI dX8_takesPart_13 fRX8_183 o40 rfl rfl ?_
    refine wp_isub dX8_takesPart_16 rfl ?_
    refine wp_iconst (v := 1) dX8_takesPart_17 (by decide) rfl ?_
    rw [hT.1, nI_subn (by omega)]
    refine wp_icmp_ne (t := 36) dX8_takesPart_18 rfl rfl (fun h18 => ?_) (fun h18 => ?_)
    · refine wp_iconst (v := 0) dX8_takesPart_36 (by decide) rfl ?_
      refine wp_istore_n (l' := [_, some _]) dX8_takesPart_37 rfl rfl ?_
      refine wp_aload_n dX8_takesPart_38 rfl rfl ?_
      refine wn_getI dX8_takesPart_39 fRX8_189 o40 rfl rfl ?_
      rw [e9]
      refine wp_iconst (v := 2) dX8_takesPart_42 (by decide) rfl ?_
      refine wp_icmp_eq (t := 52) dX8_takesPart_43 rfl rfl (fun h43 => ?_) (fun h43 => ?_)
      · refine wp_aload_n dX8_takesPart_52 rfl rfl ?_
        refine wn_getR dX8_takesPart_53 fRX8_32 o40 rfl rfl rfl ?_
        refine wp_aload_n dX8_takesPart_56 rfl rfl ?_
        refine wn_getI dX8_takesPart_57 fRX8_213 o40 rfl rfl ?_
        rw [a3]
        refine wp_aload_n dX8_takesPart_60 rfl rfl ?_
        refine wn_getI dX8_takesPart_61 fRX8_189 o40 rfl rfl ?_
        rw [e9]
        refine wp_iconst (v := 2) dX8_takesPart_64 (by decide) rfl ?_
        refine wp_icmp_ne (t := 75) dX8_takesPart_65 rfl rfl (fun h65 => ?_) (fun h65 => ?_)
        · refine wp_sipush (v := 10000) dX8_takesPart_75 (by decide) rfl ?_
          refine wp_aload_n dX8_takesPart_78 rfl rfl ?_
          refine wp_aload_n dX8_takesPart_79 rfl rfl ?_
          refine wn_getI dX8_takesPart_80 fRX8_195 o40 rfl rfl ?_
          rw [ev]
          refine wn_callV1d dX8_takesPart_83 rRX8_216 (rcv_of o40 rfl) (Nat.le_of_ble_eq_true rfl) rfl (Nat.le_of_ble_eq_true rfl) rfl (c8_nameOf) ?_
          rw [e12]
          refine wp_iadd dX8_takesPart_86 rfl ?_
          rw [show 10000 + nmO key v = x from (if_neg h65).symm.trans hx]
          refine wn_iast dX8_takesPart_87 (o41 7 rfl) rfl (nIx rfl (by omega)) (show (zc z) < 96 by omega) rfl ?_
          refine wp_aload_n dX8_takesPart_88 rfl rfl ?_
          refine wp_dup dX8_takesPart_89 rfl rfl ?_
          refine wn_getI dX8_takesPart_90 fRX8_213 o40 rfl rfl ?_
          rw [sI_nr (by decide), a3]
          refine wp_iconst (v := 1) dX8_takesPart_93 (by decide) rfl ?_
          refine wp_iadd dX8_takesPart_94 rfl ?_
          rw [nI_1]
          refine wn_putI dX8_takesPart_95 fRX8_213 o40 rfl rfl rfl ?_
          refine wp_aload_n dX8_takesPart_98 rfl rfl ?_
          refine wp_dup dX8_takesPart_99 rfl rfl ?_
          refine wn_getI dX8_takesPart_100 fRX8_219 o40 rfl rfl ?_
          rw [sI_nk (by decide), sI_nr (by decide), a5]
          refine wp_iconst (v := 1) dX8_takesPart_103 (by decide) rfl ?_
          refine wp_iadd dX8_takesPart_104 rfl ?_
          rw [nI_1]
          refine wn_putI dX8_takesPart_105 fRX8_219 o40 rfl rfl rfl ?_
          refine wp_aload_n dX8_takesPart_108 rfl rfl ?_
          refine wp_bipush (v := 6) dX8_takesPart_109 (by decide) rfl ?_
          refine wn_callV1n dX8_takesPart_111 rRX8_222 (rcv_of o40 rfl) (Nat.le_of_ble_eq_true rfl) rfl (Nat.le_of_ble_eq_true rfl) rfl (c8_setZ (z := cdZ z x) (ls := 6) hl h.zj.cd) (fun s111 hq111 => ?_)
          have h111 := hq111
          refine wp_aload_n dX8_takesPart_114 rfl rfl ?_
          refine wn_callV0n dX8_takesPart_115 rRX8_204 (rcv_of o40 rfl) (Nat.le_of_ble_eq_true rfl)  (Nat.le_of_ble_eq_true rfl) rfl (c8_goZ hn hfn ht h6 h111) (fun s115 hq115 => ?_)
          have h115 := hq115
          refine wp_iconst (v := 1) dX8_takesPart_118 (by decide) rfl ?_
          refine wp_iret dX8_takesPart_119 rfl (by decide) ?_
          exact ⟨_, _, rfl, rfl, rfl, h115⟩
        · refine wp_aload_n dX8_takesPart_68 rfl rfl ?_
          refine wn_getI dX8_takesPart_69 fRX8_195 o40 rfl rfl ?_
          rw [ev]
          refine wp_goto (t := 87) dX8_takesPart_72 rfl ?_
          rw [show v = x from (if_pos h65).symm.trans hx]
          refine wn_iast dX8_takesPart_87 (o41 7 rfl) rfl (nIx rfl (by omega)) (show (zc z) < 96 by omega) rfl ?_
          refine wp_aload_n dX8_takesPart_88 rfl rfl ?_
          refine wp_dup dX8_takesPart_89 rfl rfl ?_
          refine wn_getI dX8_takesPart_90 fRX8_213 o40 rfl rfl ?_
          rw [sI_nr (by decide), a3]
          refine wp_iconst (v := 1) dX8_takesPart_93 (by decide) rfl ?_
          refine wp_iadd dX8_takesPart_94 rfl ?_
          rw [nI_1]
          refine wn_putI dX8_takesPart_95 fRX8_213 o40 rfl rfl rfl ?_
          refine wp_aload_n dX8_takesPart_98 rfl rfl ?_
          refine wp_dup dX8_takesPart_99 rfl rfl ?_
          refine wn_getI dX8_takesPart_100 fRX8_219 o40 rfl rfl ?_
          rw [sI_nk (by decide), sI_nr (by decide), a5]
          refine wp_iconst (v := 1) dX8_takesPart_103 (by decide) rfl ?_
          refine wp_iadd dX8_takesPart_104 rfl ?_
          rw [nI_1]
          refine wn_putI dX8_takesPart_105 fRX8_219 o40 rfl rfl rfl ?_
          refine wp_aload_n dX8_takesPart_108 rfl rfl ?_
          refine wp_bipush (v := 6) dX8_takesPart_109 (by decide) rfl ?_
          refine wn_callV1n dX8_takesPart_111 rRX8_222 (rcv_of o40 rfl) (Nat.le_of_ble_eq_true rfl) rfl (Nat.le_of_ble_eq_true rfl) rfl (c8_setZ (z := cdZ z x) (ls := 6) hl h.zj.cd) (fun s111 hq111 => ?_)
          have h111 := hq111
          refine wp_aload_n dX8_takesPart_114 rfl rfl ?_
          refine wn_callV0n dX8_takesPart_115 rRX8_204 (rcv_of o40 rfl) (Nat.le_of_ble_eq_true rfl)  (Nat.le_of_ble_eq_true rfl) rfl (c8_goZ hn hfn ht h6 h111) (fun s115 hq115 => ?_)
          have h115 := hq115
          refine wp_iconst (v := 1) dX8_takesPart_118 (by decide) rfl ?_
          refine wp_iret dX8_takesPart_119 rfl (by decide) ?_
          exact ⟨_, _, rfl, rfl, rfl, h115⟩
      · refine wp_iload_n dX8_takesPart_46 rfl rfl ?_
        refine wp_if_ne (t := 52) dX8_takesPart_47 rfl rfl (fun h47 => absurd rfl h47) (fun h47 => ?_)
        refine wp_iconst (v := 0) dX8_takesPart_50 (by decide) rfl ?_
        refine wp_iret dX8_takesPart_51 rfl (by decide) ?_
        exact (hq.elim h43 (fun z => h18 (by rw [z.2.1]; rfl))).elim
    · refine wp_aload_n dX8_takesPart_21 rfl rfl ?_
      refine wp_aload_n dX8_takesPart_22 rfl rfl ?_
      refine wn_getI dX8_takesPart_23 fRX8_195 o40 rfl rfl ?_
      rw [ev]
      refine wn_callV1d dX8_takesPart_26 rRX8_216 (rcv_of o40 rfl) (Nat.le_of_ble_eq_true rfl) rfl (Nat.le_of_ble_eq_true rfl) rfl (c8_nameOf) ?_
      rw [e12]
      refine wp_if_lt (t := 36) dX8_takesPart_29 rfl rfl (fun h29 => ?_) (fun h29 => ?_)
      · refine wp_iconst (v := 0) dX8_takesPart_36 (by decide) rfl ?_
        refine wp_istore_n (l' := [_, some _]) dX8_takesPart_37 rfl rfl ?_
        refine wp_aload_n dX8_takesPart_38 rfl rfl ?_
        refine wn_getI dX8_takesPart_39 fRX8_189 o40 rfl rfl ?_
        rw [e9]
        refine wp_iconst (v := 2) dX8_takesPart_42 (by decide) rfl ?_
        refine wp_icmp_eq (t := 52) dX8_takesPart_43 rfl rfl (fun h43 => ?_) (fun h43 => ?_)
        · refine wp_aload_n dX8_takesPart_52 rfl rfl ?_
          refine wn_getR dX8_takesPart_53 fRX8_32 o40 rfl rfl rfl ?_
          refine wp_aload_n dX8_takesPart_56 rfl rfl ?_
          refine wn_getI dX8_takesPart_57 fRX8_213 o40 rfl rfl ?_
          rw [a3]
          refine wp_aload_n dX8_takesPart_60 rfl rfl ?_
          refine wn_getI dX8_takesPart_61 fRX8_189 o40 rfl rfl ?_
          rw [e9]
          refine wp_iconst (v := 2) dX8_takesPart_64 (by decide) rfl ?_
          refine wp_icmp_ne (t := 75) dX8_takesPart_65 rfl rfl (fun h65 => ?_) (fun h65 => ?_)
          · refine wp_sipush (v := 10000) dX8_takesPart_75 (by decide) rfl ?_
            refine wp_aload_n dX8_takesPart_78 rfl rfl ?_
            refine wp_aload_n dX8_takesPart_79 rfl rfl ?_
            refine wn_getI dX8_takesPart_80 fRX8_195 o40 rfl rfl ?_
            rw [ev]
            refine wn_callV1d dX8_takesPart_83 rRX8_216 (rcv_of o40 rfl) (Nat.le_of_ble_eq_true rfl) rfl (Nat.le_of_ble_eq_true rfl) rfl (c8_nameOf) ?_
            rw [e12]
            refine wp_iadd dX8_takesPart_86 rfl ?_
            rw [show 10000 + nmO key v = x from (if_neg h65).symm.trans hx]
            refine wn_iast dX8_takesPart_87 (o41 7 rfl) rfl (nIx rfl (by omega)) (show (zc z) < 96 by omega) rfl ?_
            refine wp_aload_n dX8_takesPart_88 rfl rfl ?_
            refine wp_dup dX8_takesPart_89 rfl rfl ?_
            refine wn_getI dX8_takesPart_90 fRX8_213 o40 rfl rfl ?_
            rw [sI_nr (by decide), a3]
            refine wp_iconst (v := 1) dX8_takesPart_93 (by decide) rfl ?_
            refine wp_iadd dX8_takesPart_94 rfl ?_
            rw [nI_1]
            refine wn_putI dX8_takesPart_95 fRX8_213 o40 rfl rfl rfl ?_
            refine wp_aload_n dX8_takesPart_98 rfl rfl ?_
            refine wp_dup dX8_takesPart_99 rfl rfl ?_
            refine wn_getI dX8_takesPart_100 fRX8_219 o40 rfl rfl ?_
            rw [sI_nk (by decide), sI_nr (by decide), a5]
            refine wp_iconst (v := 1) dX8_takesPart_103 (by decide) rfl ?_
            refine wp_iadd dX8_takesPart_104 rfl ?_
            rw [nI_1]
            refine wn_putI dX8_takesPart_105 fRX8_219 o40 rfl rfl rfl ?_
            refine wp_aload_n dX8_takesPart_108 rfl rfl ?_
            refine wp_bipush (v := 6) dX8_takesPart_109 (by decide) rfl ?_
            refine wn_callV1n dX8_takesPart_111 rRX8_222 (rcv_of o40 rfl) (Nat.le_of_ble_eq_true rfl) rfl (Nat.le_of_ble_eq_true rfl) rfl (c8_setZ (z := cdZ z x) (ls := 6) hl h.zj.cd) (fun s111 hq111 => ?_)
            have h111 := hq111
            refine wp_aload_n dX8_takesPart_114 rfl rfl ?_
            refine wn_callV0n dX8_takesPart_115 rRX8_204 (rcv_of o40 rfl) (Nat.le_of_ble_eq_true rfl)  (Nat.le_of_ble_eq_true rfl) rfl (c8_goZ hn hfn ht h6 h111) (fun s115 hq115 => ?_)
            have h115 := hq115
            refine wp_iconst (v := 1) dX8_takesPart_118 (by decide) rfl ?_
            refine wp_iret dX8_takesPart_119 rfl (by decide) ?_
            exact ⟨_, _, rfl, rfl, rfl, h115⟩
          · refine wp_aload_n dX8_takesPart_68 rfl rfl ?_
            refine wn_getI dX8_takesPart_69 fRX8_195 o40 rfl rfl ?_
            rw [ev]
            refine wp_goto (t := 87) dX8_takesPart_72 rfl ?_
            rw [show v = x from (if_pos h65).symm.trans hx]
            refine wn_iast dX8_takesPart_87 (o41 7 rfl) rfl (nIx rfl (by omega)) (show (zc z) < 96 by omega) rfl ?_
            refine wp_aload_n dX8_takesPart_88 rfl rfl ?_
            refine wp_dup dX8_takesPart_89 rfl rfl ?_
            refine wn_getI dX8_takesPart_90 fRX8_213 o40 rfl rfl ?_
            rw [sI_nr (by decide), a3]
            refine wp_iconst (v := 1) dX8_takesPart_93 (by decide) rfl ?_
            refine wp_iadd dX8_takesPart_94 rfl ?_
            rw [nI_1]
            refine wn_putI dX8_takesPart_95 fRX8_213 o40 rfl rfl rfl ?_
            refine wp_aload_n dX8_takesPart_98 rfl rfl ?_
            refine wp_dup dX8_takesPart_99 rfl rfl ?_
            refine wn_getI dX8_takesPart_100 fRX8_219 o40 rfl rfl ?_
            rw [sI_nk (by decide), sI_nr (by decide), a5]
            refine wp_iconst (v := 1) dX8_takesPart_103 (by decide) rfl ?_
            refine wp_iadd dX8_takesPart_104 rfl ?_
            rw [nI_1]
            refine wn_putI dX8_takesPart_105 fRX8_219 o40 rfl rfl rfl ?_
            refine wp_aload_n dX8_takesPart_108 rfl rfl ?_
            refine wp_bipush (v := 6) dX8_takesPart_109 (by decide) rfl ?_
            refine wn_callV1n dX8_takesPart_111 rRX8_222 (rcv_of o40 rfl) (Nat.le_of_ble_eq_true rfl) rfl (Nat.le_of_ble_eq_true rfl) rfl (c8_setZ (z := cdZ z x) (ls := 6) hl h.zj.cd) (fun s111 hq111 => ?_)
            have h111 := hq111
            refine wp_aload_n dX8_takesPart_114 rfl rfl ?_
            refine wn_callV0n dX8_takesPart_115 rRX8_204 (rcv_of o40 rfl) (Nat.le_of_ble_eq_true rfl)  (Nat.le_of_ble_eq_true rfl) rfl (c8_goZ hn hfn ht h6 h111) (fun s115 hq115 => ?_)
            have h115 := hq115
            refine wp_iconst (v := 1) dX8_takesPart_118 (by decide) rfl ?_
            refine wp_iret dX8_takesPart_119 rfl (by decide) ?_
            exact ⟨_, _, rfl, rfl, rfl, h115⟩
        · refine wp_iload_n dX8_takesPart_46 rfl rfl ?_
          refine wp_if_ne (t := 52) dX8_takesPart_47 rfl rfl (fun h47 => absurd rfl h47) (fun h47 => ?_)
          refine wp_iconst (v := 0) dX8_takesPart_50 (by decide) rfl ?_
          refine wp_iret dX8_takesPart_51 rfl (by decide) ?_
          exact (hq.elim h43 (fun z => z.2.2 h29)).elim
      · refine wp_iconst (v := 1) dX8_takesPart_32 (by decide) rfl ?_
        refine wp_goto (t := 37) dX8_takesPart_33 rfl ?_
        refine wp_istore_n (l' := [_, some _]) dX8_takesPart_37 rfl rfl ?_
        refine wp_aload_n dX8_takesPart_38 rfl rfl ?_
        refine wn_getI dX8_takesPart_39 fRX8_189 o40 rfl rfl ?_
        rw [e9]
        refine wp_iconst (v := 2) dX8_takesPart_42 (by decide) rfl ?_
        refine wp_icmp_eq (t := 52) dX8_takesPart_43 rfl rfl (fun h43 => ?_) (fun h43 => ?_)
        · refine wp_aload_n dX8_takesPart_52 rfl rfl ?_
          refine wn_getR dX8_takesPart_53 fRX8_32 o40 rfl rfl rfl ?_
          refine wp_aload_n dX8_takesPart_56 rfl rfl ?_
          refine wn_getI dX8_takesPart_57 fRX8_213 o40 rfl rfl ?_
          rw [a3]
          refine wp_aload_n dX8_takesPart_60 rfl rfl ?_
          refine wn_getI dX8_takesPart_61 fRX8_189 o40 rfl rfl ?_
          rw [e9]
          refine wp_iconst (v := 2) dX8_takesPart_64 (by decide) rfl ?_
          refine wp_icmp_ne (t := 75) dX8_takesPart_65 rfl rfl (fun h65 => ?_) (fun h65 => ?_)
          · refine wp_sipush (v := 10000) dX8_takesPart_75 (by decide) rfl ?_
            refine wp_aload_n dX8_takesPart_78 rfl rfl ?_
            refine wp_aload_n dX8_takesPart_79 rfl rfl ?_
            refine wn_getI dX8_takesPart_80 fRX8_195 o40 rfl rfl ?_
            rw [ev]
            refine wn_callV1d dX8_takesPart_83 rRX8_216 (rcv_of o40 rfl) (Nat.le_of_ble_eq_true rfl) rfl (Nat.le_of_ble_eq_true rfl) rfl (c8_nameOf) ?_
            rw [e12]
            refine wp_iadd dX8_takesPart_86 rfl ?_
            rw [show 10000 + nmO key v = x from (if_neg h65).symm.trans hx]
            refine wn_iast dX8_takesPart_87 (o41 7 rfl) rfl (nIx rfl (by omega)) (show (zc z) < 96 by omega) rfl ?_
            refine wp_aload_n dX8_takesPart_88 rfl rfl ?_
            refine wp_dup dX8_takesPart_89 rfl rfl ?_
            refine wn_getI dX8_takesPart_90 fRX8_213 o40 rfl rfl ?_
            rw [sI_nr (by decide), a3]
            refine wp_iconst (v := 1) dX8_takesPart_93 (by decide) rfl ?_
            refine wp_iadd dX8_takesPart_94 rfl ?_
            rw [nI_1]
            refine wn_putI dX8_takesPart_95 fRX8_213 o40 rfl rfl rfl ?_
            refine wp_aload_n dX8_takesPart_98 rfl rfl ?_
            refine wp_dup dX8_takesPart_99 rfl rfl ?_
            refine wn_getI dX8_takesPart_100 fRX8_219 o40 rfl rfl ?_
            rw [sI_nk (by decide), sI_nr (by decide), a5]
            refine wp_iconst (v := 1) dX8_takesPart_103 (by decide) rfl ?_
            refine wp_iadd dX8_takesPart_104 rfl ?_
            rw [nI_1]
            refine wn_putI dX8_takesPart_105 fRX8_219 o40 rfl rfl rfl ?_
            refine wp_aload_n dX8_takesPart_108 rfl rfl ?_
            refine wp_bipush (v := 6) dX8_takesPart_109 (by decide) rfl ?_
            refine wn_callV1n dX8_takesPart_111 rRX8_222 (rcv_of o40 rfl) (Nat.le_of_ble_eq_true rfl) rfl (Nat.le_of_ble_eq_true rfl) rfl (c8_setZ (z := cdZ z x) (ls := 6) hl h.zj.cd) (fun s111 hq111 => ?_)
            have h111 := hq111
            refine wp_aload_n dX8_takesPart_114 rfl rfl ?_
            refine wn_callV0n dX8_takesPart_115 rRX8_204 (rcv_of o40 rfl) (Nat.le_of_ble_eq_true rfl)  (Nat.le_of_ble_eq_true rfl) rfl (c8_goZ hn hfn ht h6 h111) (fun s115 hq115 => ?_)
            have h115 := hq115
            refine wp_iconst (v := 1) dX8_takesPart_118 (by decide) rfl ?_
            refine wp_iret dX8_takesPart_119 rfl (by decide) ?_
            exact ⟨_, _, rfl, rfl, rfl, h115⟩
          · refine wp_aload_n dX8_takesPart_68 rfl rfl ?_
            refine wn_getI dX8_takesPart_69 fRX8_195 o40 rfl rfl ?_
            rw [ev]
            refine wp_goto (t := 87) dX8_takesPart_72 rfl ?_
            rw [show v = x from (if_pos h65).symm.trans hx]
            refine wn_iast dX8_takesPart_87 (o41 7 rfl) rfl (nIx rfl (by omega)) (show (zc z) < 96 by omega) rfl ?_
            refine wp_aload_n dX8_takesPart_88 rfl rfl ?_
            refine wp_dup dX8_takesPart_89 rfl rfl ?_
            refine wn_getI dX8_takesPart_90 fRX8_213 o40 rfl rfl ?_
            rw [sI_nr (by decide), a3]
            refine wp_iconst (v := 1) dX8_takesPart_93 (by decide) rfl ?_
            refine wp_iadd dX8_takesPart_94 rfl ?_
            rw [nI_1]
            refine wn_putI dX8_takesPart_95 fRX8_213 o40 rfl rfl rfl ?_
            refine wp_aload_n dX8_takesPart_98 rfl rfl ?_
            refine wp_dup dX8_takesPart_99 rfl rfl ?_
            refine wn_getI dX8_takesPart_100 fRX8_219 o40 rfl rfl ?_
            rw [sI_nk (by decide), sI_nr (by decide), a5]
            refine wp_iconst (v := 1) dX8_takesPart_103 (by decide) rfl ?_
            refine wp_iadd dX8_takesPart_104 rfl ?_
            rw [nI_1]
            refine wn_putI dX8_takesPart_105 fRX8_219 o40 rfl rfl rfl ?_
            refine wp_aload_n dX8_takesPart_108 rfl rfl ?_
            refine wp_bipush (v := 6) dX8_takesPart_109 (by decide) rfl ?_
            refine wn_callV1n dX8_takesPart_111 rRX8_222 (rcv_of o40 rfl) (Nat.le_of_ble_eq_true rfl) rfl (Nat.le_of_ble_eq_true rfl) rfl (c8_setZ (z := cdZ z x) (ls := 6) hl h.zj.cd) (fun s111 hq111 => ?_)
            have h111 := hq111
            refine wp_aload_n dX8_takesPart_114 rfl rfl ?_
            refine wn_callV0n dX8_takesPart_115 rRX8_204 (rcv_of o40 rfl) (Nat.le_of_ble_eq_true rfl)  (Nat.le_of_ble_eq_true rfl) rfl (c8_goZ hn hfn ht h6 h111) (fun s115 hq115 => ?_)
            have h115 := hq115
            refine wp_iconst (v := 1) dX8_takesPart_118 (by decide) rfl ?_
            refine wp_iret dX8_takesPart_119 rfl (by decide) ?_
            exact ⟨_, _, rfl, rfl, rfl, h115⟩
        · refine wp_iload_n dX8_takesPart_46 rfl rfl ?_
          refine wp_if_ne (t := 52) dX8_takesPart_47 rfl rfl (fun h47 => ?_) (fun h47 => absurd h47 (by decide))
          refine wp_aload_n dX8_takesPart_52 rfl rfl ?_
          refine wn_getR dX8_takesPart_53 fRX8_32 o40 rfl rfl rfl ?_
          refine wp_aload_n dX8_takesPart_56 rfl rfl ?_
          refine wn_getI dX8_takesPart_57 fRX8_213 o40 rfl rfl ?_
          rw [a3]
          refine wp_aload_n dX8_takesPart_60 rfl rfl ?_
          refine wn_getI dX8_takesPart_61 fRX8_189 o40 rfl rfl ?_
          rw [e9]
          refine wp_iconst (v := 2) dX8_takesPart_64 (by decide) rfl ?_
          refine wp_icmp_ne (t := 75) dX8_takesPart_65 rfl rfl (fun h65 => ?_) (fun h65 => ?_)
          · refine wp_sipush (v := 10000) dX8_takesPart_75 (by decide) rfl ?_
            refine wp_aload_n dX8_takesPart_78 rfl rfl ?_
            refine wp_aload_n dX8_takesPart_79 rfl rfl ?_
            refine wn_getI dX8_takesPart_80 fRX8_195 o40 rfl rfl ?_
            rw [ev]
            refine wn_callV1d dX8_takesPart_83 rRX8_216 (rcv_of o40 rfl) (Nat.le_of_ble_eq_true rfl) rfl (Nat.le_of_ble_eq_true rfl) rfl (c8_nameOf) ?_
            rw [e12]
            refine wp_iadd dX8_takesPart_86 rfl ?_
            rw [show 10000 + nmO key v = x from (if_neg h65).symm.trans hx]
            refine wn_iast dX8_takesPart_87 (o41 7 rfl) rfl (nIx rfl (by omega)) (show (zc z) < 96 by omega) rfl ?_
            refine wp_aload_n dX8_takesPart_88 rfl rfl ?_
            refine wp_dup dX8_takesPart_89 rfl rfl ?_
            refine wn_getI dX8_takesPart_90 fRX8_213 o40 rfl rfl ?_
            rw [sI_nr (by decide), a3]
            refine wp_iconst (v := 1) dX8_takesPart_93 (by decide) rfl ?_
            refine wp_iadd dX8_takesPart_94 rfl ?_
            rw [nI_1]
            refine wn_putI dX8_takesPart_95 fRX8_213 o40 rfl rfl rfl ?_
            refine wp_aload_n dX8_takesPart_98 rfl rfl ?_
            refine wp_dup dX8_takesPart_99 rfl rfl ?_
            refine wn_getI dX8_takesPart_100 fRX8_219 o40 rfl rfl ?_
            rw [sI_nk (by decide), sI_nr (by decide), a5]
            refine wp_iconst (v := 1) dX8_takesPart_103 (by decide) rfl ?_
            refine wp_iadd dX8_takesPart_104 rfl ?_
            rw [nI_1]
            refine wn_putI dX8_takesPart_105 fRX8_219 o40 rfl rfl rfl ?_
            refine wp_aload_n dX8_takesPart_108 rfl rfl ?_
            refine wp_bipush (v := 6) dX8_takesPart_109 (by decide) rfl ?_
            refine wn_callV1n dX8_takesPart_111 rRX8_222 (rcv_of o40 rfl) (Nat.le_of_ble_eq_true rfl) rfl (Nat.le_of_ble_eq_true rfl) rfl (c8_setZ (z := cdZ z x) (ls := 6) hl h.zj.cd) (fun s111 hq111 => ?_)
            have h111 := hq111
            refine wp_aload_n dX8_takesPart_114 rfl rfl ?_
            refine wn_callV0n dX8_takesPart_115 rRX8_204 (rcv_of o40 rfl) (Nat.le_of_ble_eq_true rfl)  (Nat.le_of_ble_eq_true rfl) rfl (c8_goZ hn hfn ht h6 h111) (fun s115 hq115 => ?_)
            have h115 := hq115
            refine wp_iconst (v := 1) dX8_takesPart_118 (by decide) rfl ?_
            refine wp_iret dX8_takesPart_119 rfl (by decide) ?_
            exact ⟨_, _, rfl, rfl, rfl, h115⟩
          · refine wp_aload_n dX8_takesPart_68 rfl rfl ?_
            refine wn_getI dX8_takesPart_69 fRX8_195 o40 rfl rfl ?_
            rw [ev]
            refine wp_goto (t := 87) dX8_takesPart_72 rfl ?_
            rw [show v = x from (if_pos h65).symm.trans hx]
            refine wn_iast dX8_takesPart_87 (o41 7 rfl) rfl (nIx rfl (by omega)) (show (zc z) < 96 by omega) rfl ?_
            refine wp_aload_n dX8_takesPart_88 rfl rfl ?_
            refine wp_dup dX8_takesPart_89 rfl rfl ?_
            refine wn_getI dX8_takesPart_90 fRX8_213 o40 rfl rfl ?_
            rw [sI_nr (by decide), a3]
            refine wp_iconst (v := 1) dX8_takesPart_93 (by decide) rfl ?_
            refine wp_iadd dX8_takesPart_94 rfl ?_
            rw [nI_1]
            refine wn_putI dX8_takesPart_95 fRX8_213 o40 rfl rfl rfl ?_
            refine wp_aload_n dX8_takesPart_98 rfl rfl ?_
            refine wp_dup dX8_takesPart_99 rfl rfl ?_
            refine wn_getI dX8_takesPart_100 fRX8_219 o40 rfl rfl ?_
            rw [sI_nk (by decide), sI_nr (by decide), a5]
            refine wp_iconst (v := 1) dX8_takesPart_103 (by decide) rfl ?_
            refine wp_iadd dX8_takesPart_104 rfl ?_
            rw [nI_1]
            refine wn_putI dX8_takesPart_105 fRX8_219 o40 rfl rfl rfl ?_
            refine wp_aload_n dX8_takesPart_108 rfl rfl ?_
            refine wp_bipush (v := 6) dX8_takesPart_109 (by decide) rfl ?_
            refine wn_callV1n dX8_takesPart_111 rRX8_222 (rcv_of o40 rfl) (Nat.le_of_ble_eq_true rfl) rfl (Nat.le_of_ble_eq_true rfl) rfl (c8_setZ (z := cdZ z x) (ls := 6) hl h.zj.cd) (fun s111 hq111 => ?_)
            have h111 := hq111
            refine wp_aload_n dX8_takesPart_114 rfl rfl ?_
            refine wn_callV0n dX8_takesPart_115 rRX8_204 (rcv_of o40 rfl) (Nat.le_of_ble_eq_true rfl)  (Nat.le_of_ble_eq_true rfl) rfl (c8_goZ hn hfn ht h6 h111) (fun s115 hq115 => ?_)
            have h115 := hq115
            refine wp_iconst (v := 1) dX8_takesPart_118 (by decide) rfl ?_
            refine wp_iret dX8_takesPart_119 rfl (by decide) ?_
            exact ⟨_, _, rfl, rfl, rfl, h115⟩
end
