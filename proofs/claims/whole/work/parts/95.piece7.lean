/-! THE PURE PART, 76: the class's reader takes a piece -/
section
variable {d : Nat}
theorem c2_tpO {s : Sn} {z : PZ} {f : Nat} (h : CR z s) (hI : IV f z) (hf : f < 96) (hp : zp z < 8) : Ca (d + 5) MX2_takesPiece [vR 20 0 0, vI 40] (hN s) (Pv fun y t => y = 1 ∧ CR (opZ z) t ∧ OR2 s t) := by
  change Wp _ _ 0 [some _, some _] [] _ _
  obtain ⟨a1, a2, a3, a4, a5, m, a6, a7⟩ := h
  have hI1 := hI.1
  refine wp_iload_n dX2_takesPiece_0 rfl rfl ?_
  refine wn_callS1d dX2_takesPiece_1 rRX2_92 (Nat.le_of_ble_eq_true rfl) rfl (Nat.le_of_ble_eq_true rfl) rfl (c2_sortOf) ?_
  refine wp_iconst (v := 2) dX2_takesPiece_4 (by decide) rfl ?_
  refine wp_icmp_ne (t := 13) dX2_takesPiece_5 rfl rfl (fun h5 => ?_) (fun h5 => absurd h5 (by decide))
  refine wp_iload_n dX2_takesPiece_13 rfl rfl ?_
  refine wn_callS1d dX2_takesPiece_14 rRX2_92 (Nat.le_of_ble_eq_true rfl) rfl (Nat.le_of_ble_eq_true rfl) rfl (c2_sortOf) ?_
  refine wp_iconst (v := 1) dX2_takesPiece_17 (by decide) rfl ?_
  refine wp_icmp_ne (t := 27) dX2_takesPiece_18 rfl rfl (fun h18 => ?_) (fun h18 => absurd h18 (by decide))
  refine wp_iload_n dX2_takesPiece_27 rfl rfl ?_
  refine wp_bipush (v := 40) dX2_takesPiece_28 (by decide) rfl ?_
  refine wp_icmp_ne (t := 76) dX2_takesPiece_30 rfl rfl (fun h30 => absurd rfl h30) (fun h30 => ?_)
  refine wp_aload_n dX2_takesPiece_33 rfl rfl ?_
  refine wn_getI dX2_takesPiece_34 fRX2_41 o20 rfl rfl ?_
  rw [a3]
  refine wp_bipush (v := 8) dX2_takesPiece_37 (by decide) rfl ?_
  refine wp_icmp_ge (t := 76) dX2_takesPiece_39 rfl rfl (fun h39 => absurd ((nI_leI (a := 8) (by decide) (by omega)).mp h39) (by omega)) (fun h39 => ?_)
  refine wp_aload_n dX2_takesPiece_42 rfl rfl ?_
  refine wp_iload_n dX2_takesPiece_43 rfl rfl ?_
  rw [show (40 : Int32) = sch (-11) from by decide]
  refine wn_callV1n dX2_takesPiece_44 rRX2_132 (rcv_of o20 rfl) (Nat.le_of_ble_eq_true rfl) rfl (Nat.le_of_ble_eq_true rfl) rfl (c2_push (h := zh z) (x := sch (-11)) (by omega) a1.2.2.1) (fun s44 hq44 => ?_)
  subst hq44
  refine wp_aload_n dX2_takesPiece_47 rfl rfl ?_
  refine wp_dup dX2_takesPiece_48 rfl rfl ?_
  refine wn_getI dX2_takesPiece_49 fRX2_41 o20 rfl rfl ?_
  rw [sI_nk (by decide), sI_nr (by decide), a3]
  refine wp_iconst (v := 1) dX2_takesPiece_52 (by decide) rfl ?_
  refine wp_iadd dX2_takesPiece_53 rfl ?_
  rw [nI_1]
  refine wn_putI dX2_takesPiece_54 fRX2_41 o20 rfl rfl rfl ?_
  refine wp_aload_n dX2_takesPiece_57 rfl rfl ?_
  refine wp_dup dX2_takesPiece_58 rfl rfl ?_
  refine wn_getI dX2_takesPiece_59 fRX2_47 o20 rfl rfl ?_
  rw [sI_nk (by decide), sI_nk (by decide), sI_nr (by decide), a7]
  refine wp_iconst (v := 1) dX2_takesPiece_62 (by decide) rfl ?_
  refine wp_aload_n dX2_takesPiece_63 rfl rfl ?_
  refine wn_getI dX2_takesPiece_64 fRX2_41 o20 rfl rfl ?_
  rw [sI_row, upd_eq]
  refine wp_ishl dX2_takesPiece_67 rfl ?_
  refine wp_iconst (v := (-1)) dX2_takesPiece_68 (by decide) rfl ?_
  refine wp_ixor dX2_takesPiece_69 rfl ?_
  refine wp_iand dX2_takesPiece_70 rfl ?_
  rw [bit_v (zp z + 1) (by omega), (clm_v (m := m) (p := zp z + 1) a6.1 (by omega)).1]
  refine wn_putI dX2_takesPiece_71 fRX2_47 o20 rfl rfl rfl ?_
  refine wp_iconst (v := 1) dX2_takesPiece_74 (by decide) rfl ?_
  refine wp_iret dX2_takesPiece_75 rfl (by decide) ?_
  have htb : tbt (clm9 m (zp z + 1)) (opZ z) := by
    obtain ⟨q1, q2, q3⟩ := clm_v (m := m) (p := zp z + 1) a6.1 (by omega)
    refine ⟨q2, fun k hk => ?_⟩
    have hk2 : k ≤ zp z + 1 := hk
    show _ = tst (zte z) (zp z + 1) false k
    rw [q3 k (by omega), tst]
    by_cases ek : k = zp z + 1
    · rw [if_pos ek, decide_eq_false (fun q => q ek), Bool.and_false]
    · rw [if_neg ek, decide_eq_true ek, Bool.and_true]; exact a6.2 k (by omega)
  refine ⟨_, _, rfl, rfl, rfl, ⟨?_, ?_, ?_, ?_, ?_, clm9 m (zp z + 1), htb, ?_⟩, fun q hq => ?_, (((Fr.rf.pt (by decide)).pt (by decide)).pt (by decide)).pt (by decide)⟩
  · exact (a1.ps (g := -11)).cg (by rw [sI_nk (by decide), sI_nk (by decide)]) (by rw [sI_nk (by decide), sI_nk (by decide)]) (by rw [sI_nr (by decide), sI_nr (by decide)]) (by rw [sI_nr (by decide), sI_nr (by decide)])
  · rw [sI_nk (by decide), sI_nk (by decide), sI_nk (by decide), sI_nr (by decide)]; exact a2
  · rw [sI_nk (by decide), sI_row, upd_eq]; rfl
  · rw [sI_nk (by decide), sI_nk (by decide), sI_nk (by decide), sI_nr (by decide), a4]
    show _ = nI (nts (upd (zwf z) (zh z) (-11)) (zh z + 1))
    rw [nts_u, if_neg (by decide)]
    rfl
  · rw [sI_nk (by decide), sI_nk (by decide), sI_nk (by decide), sI_nr (by decide)]; exact a5
  · rw [sI_row, upd_eq]
  · rcases hq with q1 | q1 | q1 | q1 <;> subst q1 <;> rw [sI_nk (by decide), sI_nk (by decide), sI_nk (by decide), sI_nr (by decide)]
theorem c2_tpB {s : Sn} {z : PZ} {f : Nat} (h : CR z s) (hI : IV f z) (hf : f < 96) (hp : nts (zwf z) (zh z) < 8) : Ca (d + 5) MX2_takesPiece [vR 20 0 0, vI 33] (hN s) (Pv fun y t => y = 1 ∧ CR (psh z (-10)) t ∧ OR2 s t) := by
  change Wp _ _ 0 [some _, some _] [] _ _
  obtain ⟨a1, a2, a3, a4, a5, m, a6, a7⟩ := h
  have hI1 := hI.1
  refine wp_iload_n dX2_takesPiece_0 rfl rfl ?_
  refine wn_callS1d dX2_takesPiece_1 rRX2_92 (Nat.le_of_ble_eq_true rfl) rfl (Nat.le_of_ble_eq_true rfl) rfl (c2_sortOf) ?_
  refine wp_iconst (v := 2) dX2_takesPiece_4 (by decide) rfl ?_
  refine wp_icmp_ne (t := 13) dX2_takesPiece_5 rfl rfl (fun h5 => ?_) (fun h5 => absurd h5 (by decide))
  refine wp_iload_n dX2_takesPiece_13 rfl rfl ?_
  refine wn_callS1d dX2_takesPiece_14 rRX2_92 (Nat.le_of_ble_eq_true rfl) rfl (Nat.le_of_ble_eq_true rfl) rfl (c2_sortOf) ?_
  refine wp_iconst (v := 1) dX2_takesPiece_17 (by decide) rfl ?_
  refine wp_icmp_ne (t := 27) dX2_takesPiece_18 rfl rfl (fun h18 => ?_) (fun h18 => absurd h18 (by decide))
  refine wp_iload_n dX2_takesPiece_27 rfl rfl ?_
  refine wp_bipush (v := 40) dX2_takesPiece_28 (by decide) rfl ?_
  refine wp_icmp_ne (t := 76) dX2_takesPiece_30 rfl rfl (fun h30 => ?_) (fun h30 => absurd h30 (by decide))
  refine wp_iload_n dX2_takesPiece_76 rfl rfl ?_
  refine wp_bipush (v := 33) dX2_takesPiece_77 (by decide) rfl ?_
  refine wp_icmp_ne (t := 108) dX2_takesPiece_79 rfl rfl (fun h79 => absurd rfl h79) (fun h79 => ?_)
  refine wp_aload_n dX2_takesPiece_82 rfl rfl ?_
  refine wn_getI dX2_takesPiece_83 fRX2_44 o20 rfl rfl ?_
  rw [a4]
  refine wp_bipush (v := 8) dX2_takesPiece_86 (by decide) rfl ?_
  refine wp_icmp_ge (t := 108) dX2_takesPiece_88 rfl rfl (fun h88 => absurd ((nI_leI (a := 8) (by decide) (by omega)).mp h88) (by omega)) (fun h88 => ?_)
  refine wp_aload_n dX2_takesPiece_91 rfl rfl ?_
  refine wp_iload_n dX2_takesPiece_92 rfl rfl ?_
  rw [show (33 : Int32) = sch (-10) from by decide]
  refine wn_callV1n dX2_takesPiece_93 rRX2_132 (rcv_of o20 rfl) (Nat.le_of_ble_eq_true rfl) rfl (Nat.le_of_ble_eq_true rfl) rfl (c2_push (h := zh z) (x := sch (-10)) (by omega) a1.2.2.1) (fun s93 hq93 => ?_)
  subst hq93
  refine wp_aload_n dX2_takesPiece_96 rfl rfl ?_
  refine wp_dup dX2_takesPiece_97 rfl rfl ?_
  refine wn_getI dX2_takesPiece_98 fRX2_44 o20 rfl rfl ?_
  rw [sI_nk (by decide), sI_nr (by decide), a4]
  refine wp_iconst (v := 1) dX2_takesPiece_101 (by decide) rfl ?_
  refine wp_iadd dX2_takesPiece_102 rfl ?_
  rw [nI_1]
  refine wn_putI dX2_takesPiece_103 fRX2_44 o20 rfl rfl rfl ?_
  refine wp_iconst (v := 1) dX2_takesPiece_106 (by decide) rfl ?_
  refine wp_iret dX2_takesPiece_107 rfl (by decide) ?_
  refine ⟨_, _, rfl, rfl, rfl, ⟨?_, ?_, ?_, ?_, ?_, m, a6, ?_⟩, fun q hq => ?_, ((Fr.rf.pt (by decide)).pt (by decide)).pt (by decide)⟩
  · exact (a1.ps (g := -10)).cg (by rw [sI_nk (by decide)]) (by rw [sI_nk (by decide)]) (by rw [sI_nr (by decide)]) (by rw [sI_nr (by decide)])
  · rw [sI_nk (by decide), sI_nk (by decide), sI_nr (by decide)]; exact a2
  · rw [sI_nk (by decide), sI_nk (by decide), sI_nr (by decide)]; exact a3
  · rw [sI_row, upd_eq]
    show _ = nI (nts (upd (zwf z) (zh z) (-10)) (zh z + 1))
    rw [nts_u, if_pos rfl]
  · rw [sI_nk (by decide), sI_nk (by decide), sI_nr (by decide)]; exact a5
  · rw [sI_nk (by decide), sI_nk (by decide), sI_nr (by decide)]; exact a7
  · rcases hq with q1 | q1 | q1 | q1 <;> subst q1 <;> rw [sI_nk (by decide), sI_nk (by decide), sI_nr (by decide)]
theorem c2_tpN {s : Sn} {z : PZ} {x : Int32} (h : CR z s) (hp8 : zp z ≤ 8) (hn96 : nts (zwf z) (zh z) ≤ 96) (h0 : srt x = 0) (hA : ¬ (x = 33 ∧ nts (zwf z) (zh z) < 8)) (hB : ¬ (x = 40 ∧ zp z < 8)) : Ca (d + 5) MX2_takesPiece [vR 20 0 0, vI x] (hN s) (Pd 0 s) := by
  change Wp _ _ 0 [some _, some _] [] _ _
  obtain ⟨a1, a2, a3, a4, a5, m, a6, a7⟩ := h
  refine wp_iload_n dX2_takesPiece_0 rfl rfl ?_
  refine wn_callS1d dX2_takesPiece_1 rRX2_92 (Nat.le_of_ble_eq_true rfl) rfl (Nat.le_of_ble_eq_true rfl) rfl (c2_sortOf) ?_
  refine wp_iconst (v := 2) dX2_takesPiece_4 (by decide) rfl ?_
  refine wp_icmp_ne (t := 13) dX2_takesPiece_5 rfl rfl (fun h5 => ?_) (fun h5 => absurd (h0.symm.trans h5) (by decide))
  refine wp_iload_n dX2_takesPiece_13 rfl rfl ?_
  refine wn_callS1d dX2_takesPiece_14 rRX2_92 (Nat.le_of_ble_eq_true rfl) rfl (Nat.le_of_ble_eq_true rfl) rfl (c2_sortOf) ?_
  refine wp_iconst (v := 1) dX2_takesPiece_17 (by decide) rfl ?_
  refine wp_icmp_ne (t := 27) dX2_takesPiece_18 rfl rfl (fun h18 => ?_) (fun h18 => absurd (h0.symm.trans h18) (by decide))
  refine wp_iload_n dX2_takesPiece_27 rfl rfl ?_
  refine wp_bipush (v := 40) dX2_takesPiece_28 (by decide) rfl ?_
  refine wp_icmp_ne (t := 76) dX2_takesPiece_30 rfl rfl (fun h30 => ?_) (fun h30 => ?_)
  · refine wp_iload_n dX2_takesPiece_76 rfl rfl ?_
    refine wp_bipush (v := 33) dX2_takesPiece_77 (by decide) rfl ?_
    refine wp_icmp_ne (t := 108) dX2_takesPiece_79 rfl rfl (fun h79 => ?_) (fun h79 => ?_)
    · refine wp_iconst (v := 0) dX2_takesPiece_108 (by decide) rfl ?_
      refine wp_iret dX2_takesPiece_109 rfl (by decide) ?_
      exact Pd.mk
    · refine wp_aload_n dX2_takesPiece_82 rfl rfl ?_
      refine wn_getI dX2_takesPiece_83 fRX2_44 o20 rfl rfl ?_
      rw [a4]
      refine wp_bipush (v := 8) dX2_takesPiece_86 (by decide) rfl ?_
      refine wp_icmp_ge (t := 108) dX2_takesPiece_88 rfl rfl (fun h88 => ?_) (fun h88 => (hA ⟨h79, by have := mt (nI_leI (a := 8) (by decide) (by omega)).mpr h88; omega⟩).elim)
      refine wp_iconst (v := 0) dX2_takesPiece_108 (by decide) rfl ?_
      refine wp_iret dX2_takesPiece_109 rfl (by decide) ?_
      exact Pd.mk
  · refine wp_aload_n dX2_takesPiece_33 rfl rfl ?_
    refine wn_getI dX2_takesPiece_34 fRX2_41 o20 rfl rfl ?_
    rw [a3]
    refine wp_bipush (v := 8) dX2_takesPiece_37 (by decide) rfl ?_
    refine wp_icmp_ge (t := 76) dX2_takesPiece_39 rfl rfl (fun h39 => ?_) (fun h39 => (hB ⟨h30, by have := mt (nI_leI (a := 8) (by decide) (by omega)).mpr h39; omega⟩).elim)
    refine wp_iload_n dX2_takesPiece_76 rfl rfl ?_
    refine wp_bipush (v := 33) dX2_takesPiece_77 (by decide) rfl ?_
    refine wp_icmp_ne (t := 108) dX2_takesPiece_79 rfl rfl (fun h79 => ?_) (fun h79 => ?_)
    · refine wp_iconst (v := 0) dX2_takesPiece_108 (by decide) rfl ?_
      refine wp_iret dX2_takesPiece_109 rfl (by decide) ?_
      exact Pd.mk
    · refine wp_aload_n dX2_takesPiece_82 rfl rfl ?_
      refine wn_getI dX2_takesPiece_83 fRX2_44 o20 rfl rfl ?_
      rw [a4]
      refine wp_bipush (v := 8) dX2_takesPiece_86 (by decide) rfl ?_
      refine wp_icmp_ge (t := 108) dX2_takesPiece_88 rfl rfl (fun h88 => ?_) (fun h88 => (hA ⟨h79, by have := mt (nI_leI (a := 8) (by decide) (by omega)).mpr h88; omega⟩).elim)
      refine wp_iconst (v := 0) dX2_takesPiece_108 (by decide) rfl ?_
      refine wp_iret dX2_takesPiece_109 rfl (by decide) ?_
      exact Pd.mk
theorem c2_tpF {s : Sn} {tp : Fl} {n f e : Nat} {z : PZ} {x : Int32} (hn : n ≤ 96) (hT : TP s tp n) (hQ : TQ tp) (e12 : s.1 (20, 0, 0) 12 = nI f) (e13 : s.1 (20, 0, 0) 13 = nI e) (hfe : f ≤ e) (hen : e ≤ n) (hx : srt x = 2) (hd : ∀ k, f ≤ k → k < e → isF tp n k) (h : CR z s) (hc : zc z < 96) (h4 : e - f ≤ 4) : Ca (d + 5) MX2_takesPiece [vR 20 0 0, vI x] (hN s) (Pv fun y t => y = 1 ∧ CR (cdZ z (num tp f (e - f))) t ∧ OR2 s t) := by
  change Wp _ _ 0 [some _, some _] [] _ _
  refine wp_iload_n dX2_takesPiece_0 rfl rfl ?_
  refine wn_callS1d dX2_takesPiece_1 rRX2_92 (Nat.le_of_ble_eq_true rfl) rfl (Nat.le_of_ble_eq_true rfl) rfl (c2_sortOf) ?_
  refine wp_iconst (v := 2) dX2_takesPiece_4 (by decide) rfl ?_
  refine wp_icmp_ne (t := 13) dX2_takesPiece_5 rfl rfl (fun h5 => absurd hx h5) (fun h5 => ?_)
  refine wp_aload_n dX2_takesPiece_8 rfl rfl ?_
  refine wn_callV0i dX2_takesPiece_9 rRX2_126 (rcv_of o20 rfl) (Nat.le_of_ble_eq_true rfl)  (Nat.le_of_ble_eq_true rfl) rfl (c2_takesNumber hn hT hQ e12 e13 hfe hen hd h hc h4) (fun x9 s9 hq9 => ?_)
  obtain ⟨e9, h9⟩ := hq9
  subst e9
  refine wp_iret dX2_takesPiece_12 rfl (by decide) ?_
  exact ⟨_, _, rfl, rfl, rfl, h9⟩
theorem c2_tpFN {s : Sn} {f e : Nat} {x : Int32} (e12 : s.1 (20, 0, 0) 12 = nI f) (e13 : s.1 (20, 0, 0) 13 = nI e) (hfe : f ≤ e) (he : e ≤ 96) (hx : srt x = 2) (h4 : ¬ e - f ≤ 4) : Ca (d + 5) MX2_takesPiece [vR 20 0 0, vI x] (hN s) (Pd 0 s) := by
  change Wp _ _ 0 [some _, some _] [] _ _
  refine wp_iload_n dX2_takesPiece_0 rfl rfl ?_
  refine wn_callS1d dX2_takesPiece_1 rRX2_92 (Nat.le_of_ble_eq_true rfl) rfl (Nat.le_of_ble_eq_true rfl) rfl (c2_sortOf) ?_
  refine wp_iconst (v := 2) dX2_takesPiece_4 (by decide) rfl ?_
  refine wp_icmp_ne (t := 13) dX2_takesPiece_5 rfl rfl (fun h5 => absurd hx h5) (fun h5 => ?_)
  refine wp_aload_n dX2_takesPiece_8 rfl rfl ?_
  refine wn_callV0d dX2_takesPiece_9 rRX2_126 (rcv_of o20 rfl) (Nat.le_of_ble_eq_true rfl)  (Nat.le_of_ble_eq_true rfl) rfl (c2_takesNumberN e12 e13 hfe he h4) ?_
  refine wp_iret dX2_takesPiece_12 rfl (by decide) ?_
  exact Pd.mk
theorem c2_tpL {s : Sn} {z : PZ} {kk f e b : Nat} (e6 : s.1 (20, 0, 0) 6 = nI kk) (hk : kk < 3) (e12 : s.1 (20, 0, 0) 12 = nI f) (e13 : s.1 (20, 0, 0) 13 = nI e) (hfe : f ≤ e) (he : e ≤ 96) (hX : TT s) (hb : b < 128) (hx : srt (nI b) = 1) (h : CR z s) (hc : zc z < 96) (hl1 : e - f = 1) (hq : ¬ nmO (nI kk) (nI b) < 0) : Ca (d + 5) MX2_takesPiece [vR 20 0 0, vI (nI b)] (hN s) (Pv fun y t => y = 1 ∧ CR (cdZ z (10000 + nmO (nI kk) (nI b))) t ∧ OR2 s t) := by
  change Wp _ _ 0 [some _, some _] [] _ _
  refine wp_iload_n dX2_takesPiece_0 rfl rfl ?_
  refine wn_callS1d dX2_takesPiece_1 rRX2_92 (Nat.le_of_ble_eq_true rfl) rfl (Nat.le_of_ble_eq_true rfl) rfl (c2_sortOf) ?_
  refine wp_iconst (v := 2) dX2_takesPiece_4 (by decide) rfl ?_
  refine wp_icmp_ne (t := 13) dX2_takesPiece_5 rfl rfl (fun h5 => ?_) (fun h5 => absurd (hx.symm.trans h5) (by decide))
  refine wp_iload_n dX2_takesPiece_13 rfl rfl ?_
  refine wn_callS1d dX2_takesPiece_14 rRX2_92 (Nat.le_of_ble_eq_true rfl) rfl (Nat.le_of_ble_eq_true rfl) rfl (c2_sortOf) ?_
  refine wp_iconst (v := 1) dX2_takesPiece_17 (by decide) rfl ?_
  refine wp_icmp_ne (t := 27) dX2_takesPiece_18 rfl rfl (fun h18 => absurd hx h18) (fun h18 => ?_)
  refine wp_aload_n dX2_takesPiece_21 rfl rfl ?_
  refine wp_iload_n dX2_takesPiece_22 rfl rfl ?_
  refine wn_callV1i dX2_takesPiece_23 rRX2_129 (rcv_of o20 rfl) (Nat.le_of_ble_eq_true rfl) rfl (Nat.le_of_ble_eq_true rfl) rfl (c2_takesName e6 hk e12 e13 hfe he hX hb h hc hl1 hq) (fun x23 s23 hq23 => ?_)
  obtain ⟨e9, h9⟩ := hq23
  subst e9
  refine wp_iret dX2_takesPiece_26 rfl (by decide) ?_
  exact ⟨_, _, rfl, rfl, rfl, h9⟩
theorem c2_tpLN {s : Sn} {kk f e b : Nat} (e6 : s.1 (20, 0, 0) 6 = nI kk) (hk : kk < 3) (e12 : s.1 (20, 0, 0) 12 = nI f) (e13 : s.1 (20, 0, 0) 13 = nI e) (hfe : f ≤ e) (he : e ≤ 96) (hX : TT s) (hb : b < 128) (hx : srt (nI b) = 1) (hno : ¬ (e - f = 1 ∧ ¬ nmO (nI kk) (nI b) < 0)) : Ca (d + 5) MX2_takesPiece [vR 20 0 0, vI (nI b)] (hN s) (Pd 0 s) := by
  change Wp _ _ 0 [some _, some _] [] _ _
  refine wp_iload_n dX2_takesPiece_0 rfl rfl ?_
  refine wn_callS1d dX2_takesPiece_1 rRX2_92 (Nat.le_of_ble_eq_true rfl) rfl (Nat.le_of_ble_eq_true rfl) rfl (c2_sortOf) ?_
  refine wp_iconst (v := 2) dX2_takesPiece_4 (by decide) rfl ?_
  refine wp_icmp_ne (t := 13) dX2_takesPiece_5 rfl rfl (fun h5 => ?_) (fun h5 => absurd (hx.symm.trans h5) (by decide))
  refine wp_iload_n dX2_takesPiece_13 rfl rfl ?_
  refine wn_callS1d dX2_takesPiece_14 rRX2_92 (Nat.le_of_ble_eq_true rfl) rfl (Nat.le_of_ble_eq_true rfl) rfl (c2_sortOf) ?_
  refine wp_iconst (v := 1) dX2_takesPiece_17 (by decide) rfl ?_
  refine wp_icmp_ne (t := 27) dX2_takesPiece_18 rfl rfl (fun h18 => absurd hx h18) (fun h18 => ?_)
  refine wp_aload_n dX2_takesPiece_21 rfl rfl ?_
  refine wp_iload_n dX2_takesPiece_22 rfl rfl ?_
  refine wn_callV1d dX2_takesPiece_23 rRX2_129 (rcv_of o20 rfl) (Nat.le_of_ble_eq_true rfl) rfl (Nat.le_of_ble_eq_true rfl) rfl (c2_takesNameN e6 hk e12 e13 hfe he hX hb hno) ?_
  refine wp_iret dX2_takesPiece_26 rfl (by decide) ?_
  exact Pd.mk
end
