/-! THE PURE PART, 75: the class's reader takes a sign -/
section
variable {d : Nat}
theorem sgT : (List.range 256).all (fun b => decide ((lev (i8 (nI b)) = 0 ↔ sgn 3 (nI b) = 0) ∧ (¬ sgn 3 (nI b) = 0 → (sch (sgn 3 (nI b)) = i8 (nI b) ∧ lev (i8 (nI b)) = rnk (sgn 3 (nI b)) ∧ sgn 3 (nI b) ∈ sgs) ∧ ¬ i8 (nI b) = 41))) = true := by decide +kernel
theorem sg_t {b : Nat} (hb : b < 256) : (lev (i8 (nI b)) = 0 ↔ sgn 3 (nI b) = 0) ∧ (¬ sgn 3 (nI b) = 0 → (sch (sgn 3 (nI b)) = i8 (nI b) ∧ lev (i8 (nI b)) = rnk (sgn 3 (nI b)) ∧ sgn 3 (nI b) ∈ sgs) ∧ ¬ i8 (nI b) = 41) := of_decide_eq_true (List.all_eq_true.mp sgT b (List.mem_range.mpr hb))
def clm9 (m p : Nat) : Nat := if Nat.testBit m p = true then m - 2 ^ p else m
theorem clmT : (List.range 512).all (fun m => (List.range 9).all (fun p => decide (nI m &&& (nI (2 ^ p) ^^^ (-1)) = nI (clm9 m p) ∧ clm9 m p < 512) && (List.range 9).all (fun k => decide (Nat.testBit (clm9 m p) k = (Nat.testBit m k && decide (k ≠ p)))))) = true := by decide +kernel
theorem clm_v {m p : Nat} (hm : m < 512) (hp : p < 9) : nI m &&& (nI (2 ^ p) ^^^ (-1)) = nI (clm9 m p) ∧ clm9 m p < 512 ∧ ∀ k, k < 9 → Nat.testBit (clm9 m p) k = (Nat.testBit m k && decide (k ≠ p)) := by
  have h := List.all_eq_true.mp (List.all_eq_true.mp clmT m (List.mem_range.mpr hm)) p (List.mem_range.mpr hp)
  rw [Bool.and_eq_true] at h
  have h1 := of_decide_eq_true h.1
  exact ⟨h1.1, h1.2, fun k hk => of_decide_eq_true (List.all_eq_true.mp h.2 k (List.mem_range.mpr hk))⟩
theorem CW.ps {s : Sn} {cf wf : Fl} {c h : Nat} {g : Int32} (hc : CW s cf c wf h) : CW (sI (sI s (24, 0, 0) h (sch g)) (20, 0, 0) 5 (nI (h + 1))) cf c (upd wf h g) (h + 1) := by
  obtain ⟨h1, h2, h3, h4⟩ := hc
  refine ⟨?_, fun k hk => ?_, ?_, fun k hk => ?_⟩
  · rw [sI_nk (by decide), sI_nr (by decide)]; exact h1
  · rw [sI_nr (by decide), sI_nr (by decide)]; exact h2 k hk
  · rw [sI_row, upd_eq]
  · rw [sI_nr (by decide), sI_row]
    by_cases e : k = h
    · rw [e, upd_eq, upd_eq]
    · rw [upd_ne e, upd_ne e]; exact h4 k (by omega)
theorem SV.up {wf : Fl} {h : Nat} {g : Int32} (hv : SV wf h) (hg : g ∈ sgs) : SV (upd wf h g) (h + 1) := fun k hk => by
  by_cases e : k = h
  · rw [e, upd_eq]; exact hg
  · rw [upd_ne e]; exact hv k (by omega)
theorem SV.le {wf : Fl} {h h' : Nat} (hv : SV wf h) (hl : h' ≤ h) : SV wf h' := fun k hk => hv k (by omega)
theorem c2_takesSignN {s : Sn} {z : PZ} {f b : Nat} (h : CR z s) (hI : IV f z) (hV : SV (zwf z) (zh z)) (hw : zwt z = false) (hf : f < 96) (hb : b < 256) (h41 : ¬ i8 (nI b) = 41) (hno : sgn 3 (nI b) = 0 ∨ (rnk (sgn 3 (nI b)) = 3 ∧ zte z (zp z) = true)) : Ca (d + 3) MX2_takesSign [vR 20 0 0, vI (i8 (nI b))] (hN s) (Pd 0 s) := by
  change Wp _ _ 0 [some _, some _, none, none] [] _ _
  obtain ⟨a1, a2, a3, a4, a5, m, a6, a7⟩ := h
  have hp8 := hI.2.2.1
  have hsg := sg_t hb
  refine wp_iload_n dX2_takesSign_0 rfl rfl ?_
  refine wp_bipush (v := 41) dX2_takesSign_1 (by decide) rfl ?_
  refine wp_icmp_ne (t := 11) dX2_takesSign_3 rfl rfl (fun h3 => ?_) (fun h3 => absurd h3 h41)
  refine wp_iload_n dX2_takesSign_11 rfl rfl ?_
  refine wn_callS1d dX2_takesSign_12 rRX2_154 (Nat.le_of_ble_eq_true rfl) rfl (Nat.le_of_ble_eq_true rfl) rfl (c2_levelOf) ?_
  refine wp_istore_n (l' := [_, _, some _, _]) dX2_takesSign_15 rfl rfl ?_
  refine wp_iload_n dX2_takesSign_16 rfl rfl ?_
  refine wp_iconst (v := 3) dX2_takesSign_17 (by decide) rfl ?_
  refine wp_icmp_ne (t := 25) dX2_takesSign_18 rfl rfl (fun h18 => ?_) (fun h18 => ?_)
  · refine wp_iconst (v := 0) dX2_takesSign_25 (by decide) rfl ?_
    refine wp_istore_n (l' := [_, _, _, some _]) dX2_takesSign_26 rfl rfl ?_
    refine wp_iload_n dX2_takesSign_27 rfl rfl ?_
    refine wp_if_eq (t := 49) dX2_takesSign_28 rfl rfl (fun h28 => ?_) (fun h28 => ?_)
    · refine wp_iconst (v := 0) dX2_takesSign_49 (by decide) rfl ?_
      refine wp_iret dX2_takesSign_50 rfl (by decide) ?_
      exact Pd.mk
    · refine wp_iload_n dX2_takesSign_31 rfl rfl ?_
      refine wp_if_eq (t := 51) dX2_takesSign_32 rfl rfl (fun h32 => ?_) (fun h32 => absurd rfl h32)
      exfalso
      have h0 : ¬ sgn 3 (nI b) = 0 := fun q => h28 (hsg.1.mpr q)
      have h1 := (hsg.2 h0).1.2.1
      rcases hno with q | q
      · exact h0 q
      · exact h18 (h1.trans q.1)
  · refine wp_iconst (v := 1) dX2_takesSign_21 (by decide) rfl ?_
    refine wp_goto (t := 26) dX2_takesSign_22 rfl ?_
    refine wp_istore_n (l' := [_, _, _, some _]) dX2_takesSign_26 rfl rfl ?_
    refine wp_iload_n dX2_takesSign_27 rfl rfl ?_
    refine wp_if_eq (t := 49) dX2_takesSign_28 rfl rfl (fun h28 => ?_) (fun h28 => ?_)
    · refine wp_iconst (v := 0) dX2_takesSign_49 (by decide) rfl ?_
      refine wp_iret dX2_takesSign_50 rfl (by decide) ?_
      exact Pd.mk
    · refine wp_iload_n dX2_takesSign_31 rfl rfl ?_
      refine wp_if_eq (t := 51) dX2_takesSign_32 rfl rfl (fun h32 => absurd h32 (by decide)) (fun h32 => ?_)
      refine wp_aload_n dX2_takesSign_35 rfl rfl ?_
      refine wn_getI dX2_takesSign_36 fRX2_47 o20 rfl rfl ?_
      rw [a7]
      refine wp_iconst (v := 1) dX2_takesSign_39 (by decide) rfl ?_
      refine wp_aload_n dX2_takesSign_40 rfl rfl ?_
      refine wn_getI dX2_takesSign_41 fRX2_41 o20 rfl rfl ?_
      rw [a3]
      refine wp_ishl dX2_takesSign_44 rfl ?_
      refine wp_iand dX2_takesSign_45 rfl ?_
      refine wp_if_eq (t := 51) dX2_takesSign_46 rfl rfl (fun h46 => ?_) (fun h46 => ?_)
      · exfalso
        have h0 : ¬ sgn 3 (nI b) = 0 := fun q => h28 (hsg.1.mpr q)
        have h1 := (hsg.2 h0).1.2.1
        rcases hno with q | q
        · exact h0 q
        · have hbt := bit_f (m := m) (g := zp z) (by have := a6.1; omega) (by omega) h46; rw [a6.2 (zp z) (Nat.le_refl _)] at hbt; exact absurd (hbt.symm.trans q.2) (by decide)
      · refine wp_iconst (v := 0) dX2_takesSign_49 (by decide) rfl ?_
        refine wp_iret dX2_takesSign_50 rfl (by decide) ?_
        exact Pd.mk
theorem c2_takesSign41 {s : Sn} {z : PZ} {f : Nat} (h : CR z s) (hI : IV f z) (hV : SV (zwf z) (zh z)) (hw : zwt z = false) (hf : f ≤ 96) (hp : 0 < zp z) : Ca (d + 3) MX2_takesSign [vR 20 0 0, vI 41] (hN s) (Pv fun y t => y = 1 ∧ CR (hpZ (sz z 0) (zh (sz z 0) - 1) (zp z - 1)) t ∧ OR2 s t) := by
  change Wp _ _ 0 [some _, some _, none, none] [] _ _
  refine wp_iload_n dX2_takesSign_0 rfl rfl ?_
  refine wp_bipush (v := 41) dX2_takesSign_1 (by decide) rfl ?_
  refine wp_icmp_ne (t := 11) dX2_takesSign_3 rfl rfl (fun h3 => absurd rfl h3) (fun h3 => ?_)
  refine wp_aload_n dX2_takesSign_6 rfl rfl ?_
  refine wn_callV0i dX2_takesSign_7 rRX2_151 (rcv_of o20 rfl) (Nat.le_of_ble_eq_true rfl)  (Nat.le_of_ble_eq_true rfl) rfl (c2_closesBracket h hI hV hw hf hp) (fun x7 s7 hq7 => ?_)
  obtain ⟨e7, h7⟩ := hq7
  subst e7
  refine wp_iret dX2_takesSign_10 rfl (by decide) ?_
  exact ⟨_, _, rfl, rfl, rfl, h7⟩
theorem c2_takesSign41N {s : Sn} (h8 : s.1 (20, 0, 0) 8 = 0) : Ca (d + 3) MX2_takesSign [vR 20 0 0, vI 41] (hN s) (Pd 0 s) := by
  change Wp _ _ 0 [some _, some _, none, none] [] _ _
  refine wp_iload_n dX2_takesSign_0 rfl rfl ?_
  refine wp_bipush (v := 41) dX2_takesSign_1 (by decide) rfl ?_
  refine wp_icmp_ne (t := 11) dX2_takesSign_3 rfl rfl (fun h3 => absurd rfl h3) (fun h3 => ?_)
  refine wp_aload_n dX2_takesSign_6 rfl rfl ?_
  refine wn_callV0d dX2_takesSign_7 rRX2_151 (rcv_of o20 rfl) (Nat.le_of_ble_eq_true rfl)  (Nat.le_of_ble_eq_true rfl) rfl (c2_closesBracketN h8) ?_
  refine wp_iret dX2_takesSign_10 rfl (by decide) ?_
  exact Pd.mk
theorem c2_takesSign {s : Sn} {z : PZ} {f b : Nat} (h : CR z s) (hI : IV f z) (hV : SV (zwf z) (zh z)) (hw : zwt z = false) (hf : f < 96) (hb : b < 256) (h0 : ¬ (sgn 3 (nI b)) = 0) (hno : ¬ (rnk (sgn 3 (nI b)) = 3 ∧ zte z (zp z) = true)) : Ca (d + 3) MX2_takesSign [vR 20 0 0, vI (i8 (nI b))] (hN s) (Pv fun y t => y = 1 ∧ CR (sgZ z (sgn 3 (nI b))) t ∧ OR2 s t) := by
  change Wp _ _ 0 [some _, some _, none, none] [] _ _
  obtain ⟨a1, a2, a3, a4, a5, m, a6, a7⟩ := h
  have hp8 := hI.2.2.1
  have hsg := sg_t hb
  obtain ⟨⟨sch1, hlv, hmem⟩, h41⟩ := hsg.2 h0
  have h9 := sgn_9 h0
  have hIs := hI.sg hw h9
  have hcc := stl_c (wf := zwf z) (ls := rnk (sgn 3 (nI b))) (zh z) (zcf z) (zc z)
  have hr := (of_decide_eq_true (List.all_eq_true.mp sch_l _ hmem)).resolve_left h9.1 |>.resolve_left h9.2
  have hlv0 : 0 < lev (i8 (nI b)) := by rw [hlv]; exact Int32.lt_of_lt_of_le (by decide) hr.2
  have hlx : ∀ x, x ∈ sgs → ¬ x = -10 → ¬ x = -11 → (lev (i8 (nI b)) ≤ lev (sch x) ↔ rnk (sgn 3 (nI b)) ≤ rnk x) := by rw [← sch1]; exact lx_s hmem h9.1 h9.2
  refine wp_iload_n dX2_takesSign_0 rfl rfl ?_
  refine wp_bipush (v := 41) dX2_takesSign_1 (by decide) rfl ?_
  refine wp_icmp_ne (t := 11) dX2_takesSign_3 rfl rfl (fun h3 => ?_) (fun h3 => absurd h3 h41)
  refine wp_iload_n dX2_takesSign_11 rfl rfl ?_
  refine wn_callS1d dX2_takesSign_12 rRX2_154 (Nat.le_of_ble_eq_true rfl) rfl (Nat.le_of_ble_eq_true rfl) rfl (c2_levelOf) ?_
  refine wp_istore_n (l' := [_, _, some _, _]) dX2_takesSign_15 rfl rfl ?_
  refine wp_iload_n dX2_takesSign_16 rfl rfl ?_
  refine wp_iconst (v := 3) dX2_takesSign_17 (by decide) rfl ?_
  refine wp_icmp_ne (t := 25) dX2_takesSign_18 rfl rfl (fun h18 => ?_) (fun h18 => ?_)
  · refine wp_iconst (v := 0) dX2_takesSign_25 (by decide) rfl ?_
    refine wp_istore_n (l' := [_, _, _, some _]) dX2_takesSign_26 rfl rfl ?_
    refine wp_iload_n dX2_takesSign_27 rfl rfl ?_
    refine wp_if_eq (t := 49) dX2_takesSign_28 rfl rfl (fun h28 => absurd (hsg.1.mp h28) h0) (fun h28 => ?_)
    refine wp_iload_n dX2_takesSign_31 rfl rfl ?_
    refine wp_if_eq (t := 51) dX2_takesSign_32 rfl rfl (fun h32 => ?_) (fun h32 => absurd rfl h32)
    refine wp_aload_n dX2_takesSign_51 rfl rfl ?_
    refine wp_iload_n dX2_takesSign_52 rfl rfl ?_
    refine wn_callV1n dX2_takesSign_53 rRX2_79 (rcv_of o20 rfl) (Nat.le_of_ble_eq_true rfl) rfl (Nat.le_of_ble_eq_true rfl) rfl (c2_closeDownTo (L := lev (i8 (nI b))) (ls := rnk (sgn 3 (nI b))) hlv0 hlx a1 hV hI.2.2.2.1 (hI.2.2.2.2 hw) (by have := hI.1; omega)) (fun s53 hq53 => ?_)
    obtain ⟨c53, o53, hF53⟩ := hq53
    refine wp_aload_n dX2_takesSign_56 rfl rfl ?_
    refine wp_iload_n dX2_takesSign_57 rfl rfl ?_
    refine wn_callV1n dX2_takesSign_58 rRX2_132 (rcv_of o20 rfl) (Nat.le_of_ble_eq_true rfl) rfl (Nat.le_of_ble_eq_true rfl) rfl (c2_push (h := (stl (zwf z) (rnk (sgn 3 (nI b))) (zh z) (zcf z) (zc z)).2.2) (by have := hI.1; omega) c53.2.2.1) (fun s58 hq58 => ?_)
    subst hq58
    refine wp_aload_n dX2_takesSign_61 rfl rfl ?_
    refine wp_iconst (v := 1) dX2_takesSign_62 (by decide) rfl ?_
    refine wn_putZ dX2_takesSign_63 fRX2_50 o20 rfl rfl (by decide) rfl ?_
    refine wp_iload_n dX2_takesSign_66 rfl rfl ?_
    refine wp_if_eq (t := 88) dX2_takesSign_67 rfl rfl (fun h67 => ?_) (fun h67 => absurd rfl h67)
    refine wp_iload_n dX2_takesSign_88 rfl rfl ?_
    refine wp_iconst (v := 3) dX2_takesSign_89 (by decide) rfl ?_
    refine wp_icmp_ge (t := 110) dX2_takesSign_90 rfl rfl (fun h90 => ?_) (fun h90 => ?_)
    · refine wp_iconst (v := 1) dX2_takesSign_110 (by decide) rfl ?_
      refine wp_iret dX2_takesSign_111 rfl (by decide) ?_
      have hne : ¬ rnk (sgn 3 (nI b)) = 3 := fun q => h18 (hlv.trans q)
      have hgt : 3 < rnk (sgn 3 (nI b)) := Int32.lt_of_le_of_ne (hlv ▸ h90) (fun q => hne q.symm)
      have htb : tbt m (sgZ z (sgn 3 (nI b))) := by
        refine ⟨a6.1, fun k hk => ?_⟩
        have hk2 : k ≤ zp z := hk
        show _ = tst (zte z) (zp z) (decide (rnk (sgn 3 (nI b)) = 3) || (decide (3 < rnk (sgn 3 (nI b))) && zte z (zp z))) k
        rw [tst, decide_eq_false hne, decide_eq_true hgt, Bool.true_and, Bool.false_or]
        by_cases ek : k = zp z
        · rw [if_pos ek, ek]; exact a6.2 _ (Nat.le_refl _)
        · rw [if_neg ek]; exact a6.2 k hk2
      refine ⟨_, _, rfl, rfl, rfl, ⟨?_, ?_, ?_, ?_, ?_, m, htb, ?_⟩, fun q hq => ?_, ((hF53.pt (by decide)).pt (by decide)).pt (by decide)⟩
      · show CW _ (stl (zwf z) (rnk (sgn 3 (nI b))) (zh z) (zcf z) (zc z)).1 (stl (zwf z) (rnk (sgn 3 (nI b))) (zh z) (zcf z) (zc z)).2.1 (upd (zwf z) (stl (zwf z) (rnk (sgn 3 (nI b))) (zh z) (zcf z) (zc z)).2.2 (sgn 3 (nI b))) ((stl (zwf z) (rnk (sgn 3 (nI b))) (zh z) (zcf z) (zc z)).2.2 + 1)
        refine (c53.ps (g := (sgn 3 (nI b)))).cg ?_ ?_ ?_ ?_
        · rw [sI_nk (by decide), sch1]
        · rw [sI_nk (by decide), sch1]
        · rw [sI_nr (by decide), sch1]
        · rw [sI_nr (by decide), sch1]
      · rw [sI_nk (by decide), sI_nk (by decide), sI_nr (by decide), o53 7 (by decide) (by decide)]; exact a2
      · rw [sI_nk (by decide), sI_nk (by decide), sI_nr (by decide), o53 8 (by decide) (by decide)]; exact a3
      · rw [sI_nk (by decide), sI_nk (by decide), sI_nr (by decide), o53 9 (by decide) (by decide), a4]
        exact congrArg nI hIs.2.symm
      · rw [sI_row, upd_eq]; rfl
      · rw [sI_nk (by decide), sI_nk (by decide), sI_nr (by decide), o53 10 (by decide) (by decide)]; exact a7
      · rcases hq with q1 | q1 | q1 | q1 <;> subst q1 <;> rw [sI_nk (by decide), sI_nk (by decide), sI_nr (by decide), o53 _ (by decide) (by decide)]
    · refine wp_aload_n dX2_takesSign_93 rfl rfl ?_
      refine wp_dup dX2_takesSign_94 rfl rfl ?_
      refine wn_getI dX2_takesSign_95 fRX2_47 o20 rfl rfl ?_
      rw [sI_nk (by decide), sI_nk (by decide), sI_nr (by decide), o53 10 (by decide) (by decide), a7]
      refine wp_iconst (v := 1) dX2_takesSign_98 (by decide) rfl ?_
      refine wp_aload_n dX2_takesSign_99 rfl rfl ?_
      refine wn_getI dX2_takesSign_100 fRX2_41 o20 rfl rfl ?_
      rw [sI_nk (by decide), sI_nk (by decide), sI_nr (by decide), o53 8 (by decide) (by decide), a3]
      refine wp_ishl dX2_takesSign_103 rfl ?_
      refine wp_iconst (v := (-1)) dX2_takesSign_104 (by decide) rfl ?_
      refine wp_ixor dX2_takesSign_105 rfl ?_
      refine wp_iand dX2_takesSign_106 rfl ?_
      rw [bit_v (zp z) (by omega), (clm_v (m := m) (p := zp z) a6.1 (by omega)).1]
      refine wn_putI dX2_takesSign_107 fRX2_47 o20 rfl rfl rfl ?_
      refine wp_iconst (v := 1) dX2_takesSign_110 (by decide) rfl ?_
      refine wp_iret dX2_takesSign_111 rfl (by decide) ?_
      have hlt : rnk (sgn 3 (nI b)) < 3 := hlv ▸ Int32.not_le.mp h90
      have htb : tbt (clm9 m (zp z)) (sgZ z (sgn 3 (nI b))) := by
        obtain ⟨q1, q2, q3⟩ := clm_v (m := m) (p := zp z) a6.1 (by omega)
        refine ⟨q2, fun k hk => ?_⟩
        have hk2 : k ≤ zp z := hk
        show _ = tst (zte z) (zp z) (decide (rnk (sgn 3 (nI b)) = 3) || (decide (3 < rnk (sgn 3 (nI b))) && zte z (zp z))) k
        rw [q3 k (by omega), tst, decide_eq_false (show ¬ rnk (sgn 3 (nI b)) = 3 from fun q => by rw [q] at hlt; exact absurd hlt (by decide)), decide_eq_false (show ¬ 3 < rnk (sgn 3 (nI b)) from fun q => absurd (Int32.lt_trans hlt q) Int32.lt_irrefl), Bool.false_and, Bool.false_or]
        by_cases ek : k = zp z
        · rw [if_pos ek, decide_eq_false (fun q => q ek), Bool.and_false]
        · rw [if_neg ek, decide_eq_true ek, Bool.and_true]; exact a6.2 k hk2
      refine ⟨_, _, rfl, rfl, rfl, ⟨?_, ?_, ?_, ?_, ?_, clm9 m (zp z), htb, ?_⟩, fun q hq => ?_, (((hF53.pt (by decide)).pt (by decide)).pt (by decide)).pt (by decide)⟩
      · show CW _ (stl (zwf z) (rnk (sgn 3 (nI b))) (zh z) (zcf z) (zc z)).1 (stl (zwf z) (rnk (sgn 3 (nI b))) (zh z) (zcf z) (zc z)).2.1 (upd (zwf z) (stl (zwf z) (rnk (sgn 3 (nI b))) (zh z) (zcf z) (zc z)).2.2 (sgn 3 (nI b))) ((stl (zwf z) (rnk (sgn 3 (nI b))) (zh z) (zcf z) (zc z)).2.2 + 1)
        refine (c53.ps (g := (sgn 3 (nI b)))).cg ?_ ?_ ?_ ?_
        · rw [sI_nk (by decide), sI_nk (by decide), sch1]
        · rw [sI_nk (by decide), sI_nk (by decide), sch1]
        · rw [sI_nr (by decide), sI_nr (by decide), sch1]
        · rw [sI_nr (by decide), sI_nr (by decide), sch1]
      · rw [sI_nk (by decide), sI_nk (by decide), sI_nk (by decide), sI_nr (by decide), o53 7 (by decide) (by decide)]; exact a2
      · rw [sI_nk (by decide), sI_nk (by decide), sI_nk (by decide), sI_nr (by decide), o53 8 (by decide) (by decide)]; exact a3
      · rw [sI_nk (by decide), sI_nk (by decide), sI_nk (by decide), sI_nr (by decide), o53 9 (by decide) (by decide), a4]
        exact congrArg nI hIs.2.symm
      · rw [sI_nk (by decide), sI_row, upd_eq]; rfl
      · rw [sI_row, upd_eq]
      · rcases hq with q1 | q1 | q1 | q1 <;> subst q1 <;> rw [sI_nk (by decide), sI_nk (by decide), sI_nk (by decide), sI_nr (by decide), o53 _ (by decide) (by decide)]
  · refine wp_iconst (v := 1) dX2_takesSign_21 (by decide) rfl ?_
    refine wp_goto (t := 26) dX2_takesSign_22 rfl ?_
    refine wp_istore_n (l' := [_, _, _, some _]) dX2_takesSign_26 rfl rfl ?_
    refine wp_iload_n dX2_takesSign_27 rfl rfl ?_
    refine wp_if_eq (t := 49) dX2_takesSign_28 rfl rfl (fun h28 => absurd (hsg.1.mp h28) h0) (fun h28 => ?_)
    refine wp_iload_n dX2_takesSign_31 rfl rfl ?_
    refine wp_if_eq (t := 51) dX2_takesSign_32 rfl rfl (fun h32 => absurd h32 (by decide)) (fun h32 => ?_)
    refine wp_aload_n dX2_takesSign_35 rfl rfl ?_
    refine wn_getI dX2_takesSign_36 fRX2_47 o20 rfl rfl ?_
    rw [a7]
    refine wp_iconst (v := 1) dX2_takesSign_39 (by decide) rfl ?_
    refine wp_aload_n dX2_takesSign_40 rfl rfl ?_
    refine wn_getI dX2_takesSign_41 fRX2_41 o20 rfl rfl ?_
    rw [a3]
    refine wp_ishl dX2_takesSign_44 rfl ?_
    refine wp_iand dX2_takesSign_45 rfl ?_
    refine wp_if_eq (t := 51) dX2_takesSign_46 rfl rfl (fun h46 => ?_) (fun h46 => absurd (bit_t (m := m) (g := zp z) (by have := a6.1; omega) (by omega) h46) (by rw [a6.2 (zp z) (Nat.le_refl _)]; intro q; exact hno ⟨hlv.symm.trans h18, q⟩))
    refine wp_aload_n dX2_takesSign_51 rfl rfl ?_
    refine wp_iload_n dX2_takesSign_52 rfl rfl ?_
    refine wn_callV1n dX2_takesSign_53 rRX2_79 (rcv_of o20 rfl) (Nat.le_of_ble_eq_true rfl) rfl (Nat.le_of_ble_eq_true rfl) rfl (c2_closeDownTo (L := lev (i8 (nI b))) (ls := rnk (sgn 3 (nI b))) hlv0 hlx a1 hV hI.2.2.2.1 (hI.2.2.2.2 hw) (by have := hI.1; omega)) (fun s53 hq53 => ?_)
    obtain ⟨c53, o53, hF53⟩ := hq53
    refine wp_aload_n dX2_takesSign_56 rfl rfl ?_
    refine wp_iload_n dX2_takesSign_57 rfl rfl ?_
    refine wn_callV1n dX2_takesSign_58 rRX2_132 (rcv_of o20 rfl) (Nat.le_of_ble_eq_true rfl) rfl (Nat.le_of_ble_eq_true rfl) rfl (c2_push (h := (stl (zwf z) (rnk (sgn 3 (nI b))) (zh z) (zcf z) (zc z)).2.2) (by have := hI.1; omega) c53.2.2.1) (fun s58 hq58 => ?_)
    subst hq58
    refine wp_aload_n dX2_takesSign_61 rfl rfl ?_
    refine wp_iconst (v := 1) dX2_takesSign_62 (by decide) rfl ?_
    refine wn_putZ dX2_takesSign_63 fRX2_50 o20 rfl rfl (by decide) rfl ?_
    refine wp_iload_n dX2_takesSign_66 rfl rfl ?_
    refine wp_if_eq (t := 88) dX2_takesSign_67 rfl rfl (fun h67 => absurd h67 (by decide)) (fun h67 => ?_)
    refine wp_aload_n dX2_takesSign_70 rfl rfl ?_
    refine wp_dup dX2_takesSign_71 rfl rfl ?_
    refine wn_getI dX2_takesSign_72 fRX2_47 o20 rfl rfl ?_
    rw [sI_nk (by decide), sI_nk (by decide), sI_nr (by decide), o53 10 (by decide) (by decide), a7]
    refine wp_iconst (v := 1) dX2_takesSign_75 (by decide) rfl ?_
    refine wp_aload_n dX2_takesSign_76 rfl rfl ?_
    refine wn_getI dX2_takesSign_77 fRX2_41 o20 rfl rfl ?_
    rw [sI_nk (by decide), sI_nk (by decide), sI_nr (by decide), o53 8 (by decide) (by decide), a3]
    refine wp_ishl dX2_takesSign_80 rfl ?_
    refine wp_ior dX2_takesSign_81 rfl ?_
    rw [bit_v (zp z) (by omega), nI_or]
    refine wn_putI dX2_takesSign_82 fRX2_47 o20 rfl rfl rfl ?_
    refine wp_goto (t := 110) dX2_takesSign_85 rfl ?_
    refine wp_iconst (v := 1) dX2_takesSign_110 (by decide) rfl ?_
    refine wp_iret dX2_takesSign_111 rfl (by decide) ?_
    have hr3 : rnk (sgn 3 (nI b)) = 3 := hlv.symm.trans h18
    have htb : tbt (m ||| 2 ^ zp z) (sgZ z (sgn 3 (nI b))) := by
      refine ⟨Nat.or_lt_two_pow (n := 9) a6.1 (Nat.pow_lt_pow_right (by decide) (by omega)), fun k hk => ?_⟩
      have hk2 : k ≤ zp z := hk
      show _ = tst (zte z) (zp z) (decide (rnk (sgn 3 (nI b)) = 3) || (decide (3 < rnk (sgn 3 (nI b))) && zte z (zp z))) k
      rw [Nat.testBit_or, Nat.testBit_two_pow, tst, decide_eq_true hr3, Bool.true_or]
      by_cases ek : k = zp z
      · rw [if_pos ek, decide_eq_true ek.symm, Bool.or_true]
      · rw [if_neg ek, decide_eq_false (Ne.symm ek), Bool.or_false]; exact a6.2 k hk2
    refine ⟨_, _, rfl, rfl, rfl, ⟨?_, ?_, ?_, ?_, ?_, m ||| 2 ^ zp z, htb, ?_⟩, fun q hq => ?_, (((hF53.pt (by decide)).pt (by decide)).pt (by decide)).pt (by decide)⟩
    · show CW _ (stl (zwf z) (rnk (sgn 3 (nI b))) (zh z) (zcf z) (zc z)).1 (stl (zwf z) (rnk (sgn 3 (nI b))) (zh z) (zcf z) (zc z)).2.1 (upd (zwf z) (stl (zwf z) (rnk (sgn 3 (nI b))) (zh z) (zcf z) (zc z)).2.2 (sgn 3 (nI b))) ((stl (zwf z) (rnk (sgn 3 (nI b))) (zh z) (zcf z) (zc z)).2.2 + 1)
      refine (c53.ps (g := (sgn 3 (nI b)))).cg ?_ ?_ ?_ ?_
      · rw [sI_nk (by decide), sI_nk (by decide), sch1]
      · rw [sI_nk (by decide), sI_nk (by decide), sch1]
      · rw [sI_nr (by decide), sI_nr (by decide), sch1]
      · rw [sI_nr (by decide), sI_nr (by decide), sch1]
    · rw [sI_nk (by decide), sI_nk (by decide), sI_nk (by decide), sI_nr (by decide), o53 7 (by decide) (by decide)]; exact a2
    · rw [sI_nk (by decide), sI_nk (by decide), sI_nk (by decide), sI_nr (by decide), o53 8 (by decide) (by decide)]; exact a3
    · rw [sI_nk (by decide), sI_nk (by decide), sI_nk (by decide), sI_nr (by decide), o53 9 (by decide) (by decide), a4]
      exact congrArg nI hIs.2.symm
    · rw [sI_nk (by decide), sI_row, upd_eq]; rfl
    · rw [sI_row, upd_eq]
    · rcases hq with q1 | q1 | q1 | q1 <;> subst q1 <;> rw [sI_nk (by decide), sI_nk (by decide), sI_nk (by decide), sI_nr (by decide), o53 _ (by decide) (by decide)]
end
