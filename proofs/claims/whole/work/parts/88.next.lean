/-! THE PURE PART, 69: the class goes to the next word -/
section
variable {d : Nat}
theorem i8T : (List.range 256).all (fun b => decide ((b < 128 → i8 (nI b) = nI b) ∧ (128 ≤ b → i8 (nI b) < 0))) = true := by decide +kernel
theorem i8_v {b : Nat} (h : b < 256) : (b < 128 → i8 (nI b) = nI b) ∧ (128 ≤ b → i8 (nI b) < 0) := of_decide_eq_true (List.all_eq_true.mp i8T b (List.mem_range.mpr h))
theorem i8_eq {b c : Nat} (h : b < 256) (hc : c < 128) : i8 (nI b) = nI c ↔ nI b = nI c := by
  by_cases e : b < 128
  · rw [(i8_v h).1 e]
  · have h1 := (i8_v h).2 (by omega)
    constructor
    · intro z; rw [z] at h1; exact absurd h1 (nI_pos (by omega))
    · intro z; have := (nI_eq (by omega) (by omega)).mp z; omega
def srt (x : Int32) : Int32 := if 97 ≤ x ∧ x ≤ 122 then 1 else if 48 ≤ x ∧ x ≤ 57 then 2 else 0
theorem srtT : (List.range 256).all (fun b => decide (srt (i8 (nI b)) = srt (nI b))) = true := by decide +kernel
theorem srt_8 {b : Nat} (h : b < 256) : srt (i8 (nI b)) = srt (nI b) := of_decide_eq_true (List.all_eq_true.mp srtT b (List.mem_range.mpr h))
theorem srt_1 {x : Int32} : srt x = 1 ↔ (97 ≤ x ∧ x ≤ 122) := by
  unfold srt
  by_cases e : 97 ≤ x ∧ x ≤ 122
  · rw [if_pos e]; exact ⟨fun _ => e, fun _ => rfl⟩
  · rw [if_neg e]
    constructor
    · intro z; split at z <;> exact absurd z (by decide)
    · intro z; exact absurd z e
theorem srt_2 {x : Int32} : srt x = 2 ↔ (¬ (97 ≤ x ∧ x ≤ 122) ∧ (48 ≤ x ∧ x ≤ 57)) := by
  unfold srt
  by_cases e : 97 ≤ x ∧ x ≤ 122
  · rw [if_pos e]; exact ⟨fun z => absurd z (by decide), fun z => absurd e z.1⟩
  · rw [if_neg e]
    by_cases e2 : 48 ≤ x ∧ x ≤ 57
    · rw [if_pos e2]; exact ⟨fun _ => ⟨e, e2⟩, fun _ => rfl⟩
    · rw [if_neg e2]; exact ⟨fun z => absurd z (by decide), fun z => absurd z.2 e2⟩
theorem lf_no {x : Int32} (h : 48 ≤ x ∧ x ≤ 57) : ¬ (97 ≤ x ∧ x ≤ 122) := fun z => absurd (Int32.le_trans z.1 h.2) (by decide)
theorem srt_0 {x : Int32} (h1 : ¬ srt x = 1) (h2 : ¬ srt x = 2) : srt x = 0 := by
  unfold srt at *
  by_cases e : 97 ≤ x ∧ x ≤ 122
  · rw [if_pos e] at h1; exact absurd rfl h1
  · rw [if_neg e] at h1 h2 ⊢
    by_cases e2 : 48 ≤ x ∧ x ≤ 57
    · rw [if_pos e2] at h2; exact absurd rfl h2
    · rw [if_neg e2]
def btA (tp : Fl) (n k : Nat) : Int32 := if k < n then i8 (tp k) else 32
theorem c6_byteAt {s : Sn} {tp : Fl} {n k : Nat} (hn : n ≤ 96) (hk : k ≤ 96) (h : TP s tp n) : Ca d MX6_byteAt [vR 21 0 0, vI (nI k)] (hN s) (Pd (btA tp n k) s) := by
  change Wp _ _ 0 [some _, some _] [] _ _
  refine wp_iload_n dX6_byteAt_0 rfl rfl ?_
  refine wp_if_lt (t := 27) dX6_byteAt_1 rfl rfl (fun h1 => absurd h1 (nI_pos (by omega))) (fun h1 => ?_)
  refine wp_iload_n dX6_byteAt_4 rfl rfl ?_
  refine wp_aload_n dX6_byteAt_5 rfl rfl ?_
  refine wn_getI dX6_byteAt_6 fRX6_15 o21 rfl rfl ?_
  rw [h.1]
  refine wp_icmp_ge (t := 27) dX6_byteAt_9 rfl rfl (fun h9 => ?_) (fun h9 => ?_)
  · refine wp_bipush (v := 32) dX6_byteAt_27 (by decide) rfl ?_
    refine wp_iret dX6_byteAt_29 rfl rfl ?_
    refine ⟨_, _, rfl, rfl, (if_neg ?_).symm, rfl⟩
    have := (nI_leI (by omega) (by omega)).mp h9
    omega
  · have hkn : k < n := by have := mt (nI_leI (by omega) (by omega)).mpr h9; omega
    refine wp_iload_n dX6_byteAt_12 rfl rfl ?_
    refine wp_bipush (v := 96) dX6_byteAt_13 (by decide) rfl ?_
    refine wp_icmp_ge (t := 27) dX6_byteAt_15 rfl rfl (fun h15 => absurd ((nI_leI (a := 96) (by decide) (by omega)).mp h15) (by omega)) (fun h15 => ?_)
    refine wp_aload_n dX6_byteAt_18 rfl rfl ?_
    refine wn_getR dX6_byteAt_19 fRX6_9 o21 rfl rfl rfl ?_
    refine wp_iload_n dX6_byteAt_22 rfl rfl ?_
    refine wn_bald dX6_byteAt_23 o22 rfl (nIx rfl (by omega)) (show k < 96 by omega) rfl ?_
    refine wp_goto (t := 29) dX6_byteAt_24 rfl ?_
    refine wp_iret dX6_byteAt_29 rfl rfl ?_
    refine ⟨_, _, rfl, rfl, ?_, rfl⟩
    rw [h.2 k (by omega)]
    exact (if_pos hkn).symm
theorem c2_sortOf {s : Sn} {x : Int32} : Ca (d + 1) MX2_sortOf [vI x] (hN s) (Pd (srt x) s) := by
  change Wp _ _ 0 [some _] [] _ _
  refine wp_iload_n dX2_sortOf_0 rfl rfl ?_
  refine wp_bipush (v := 97) dX2_sortOf_1 (by decide) rfl ?_
  refine wp_bipush (v := 122) dX2_sortOf_3 (by decide) rfl ?_
  refine wn_callS3d dX2_sortOf_5 rRX2_95 (Nat.le_of_ble_eq_true rfl) rfl rfl rfl (Nat.le_of_ble_eq_true rfl) rfl (c7_within) ?_
  refine wp_if_eq_b (t := 13) dX2_sortOf_8 rfl rfl (fun h8 => ?_) (fun h8 => ?_)
  · refine wp_iload_n dX2_sortOf_13 rfl rfl ?_
    refine wp_bipush (v := 48) dX2_sortOf_14 (by decide) rfl ?_
    refine wp_bipush (v := 57) dX2_sortOf_16 (by decide) rfl ?_
    refine wn_callS3d dX2_sortOf_18 rRX2_95 (Nat.le_of_ble_eq_true rfl) rfl rfl rfl (Nat.le_of_ble_eq_true rfl) rfl (c7_within) ?_
    refine wp_if_eq_b (t := 28) dX2_sortOf_21 rfl rfl (fun h21 => ?_) (fun h21 => ?_)
    · refine wp_iconst (v := 0) dX2_sortOf_28 (by decide) rfl ?_
      refine wp_iret dX2_sortOf_29 rfl rfl ?_
      refine ⟨_, _, rfl, rfl, ?_, rfl⟩
      unfold srt
      rw [if_neg h8, if_neg h21]
    · refine wp_iconst (v := 2) dX2_sortOf_24 (by decide) rfl ?_
      refine wp_goto (t := 29) dX2_sortOf_25 rfl ?_
      refine wp_iret dX2_sortOf_29 rfl rfl ?_
      refine ⟨_, _, rfl, rfl, ?_, rfl⟩
      unfold srt
      rw [if_neg h8, if_pos h21]
  · refine wp_iconst (v := 1) dX2_sortOf_11 (by decide) rfl ?_
    refine wp_iret dX2_sortOf_12 rfl rfl ?_
    refine ⟨_, _, rfl, rfl, ?_, rfl⟩
    unfold srt
    rw [if_pos h8]
theorem btS {tp : Fl} {n k : Nat} (hn : n ≤ 96) (hQ : TQ tp) (hk : k < n) : srt (btA tp n k) = srt (tp k) := by
  obtain ⟨b, hb, e⟩ := hQ k (by omega)
  unfold btA
  rw [if_pos hk, e]
  exact srt_8 hb
theorem btC {tp : Fl} {n k c : Nat} (hn : n ≤ 96) (hQ : TQ tp) (hk : k < n) (hc : c < 128) : btA tp n k = nI c ↔ tp k = nI c := by
  obtain ⟨b, hb, e⟩ := hQ k (by omega)
  unfold btA
  rw [if_pos hk, e]
  exact i8_eq hb hc
def pQ (tp : Fl) (n : Nat) (x : Int32) : Nat → Bool := fun k => decide (k < n ∧ srt (tp k) = x)
theorem pQ_1 {tp : Fl} {n : Nat} : pQ tp n 1 = pL tp n := by
  funext k
  unfold pQ pL
  simp only [srt_1]
theorem pQ_2 {tp : Fl} {n : Nat} : pQ tp n 2 = pF tp n := by
  funext k
  unfold pQ pF
  refine decide_eq_decide.mpr ⟨fun z => ⟨z.1, (srt_2.mp z.2).2⟩, fun z => ⟨z.1, srt_2.mpr ⟨lf_no z.2, z.2⟩⟩⟩
theorem gN_q {tp : Fl} {n f : Nat} (hf : f < n) : gN tp n f = if srt (tp f) = 0 then f + 1 else run (pQ tp n (srt (tp f))) (n - (f + 1)) (f + 1) := by
  have hne : ¬ f = n := by omega
  by_cases h1 : srt (tp f) = 1
  · have hl : isL tp n f := ⟨hf, srt_1.mp h1⟩
    rw [gN_L hne hl, if_neg (by rw [h1]; decide), h1, pQ_1, run_y (show pL tp n f = true from decide_eq_true hl) hf]
  · have hl : ¬ isL tp n f := fun z => h1 (srt_1.mpr z.2)
    by_cases h2 : srt (tp f) = 2
    · have hg : isF tp n f := ⟨hf, (srt_2.mp h2).2⟩
      rw [gN_F hne hl hg, if_neg (by rw [h2]; decide), h2, pQ_2, run_y (show pF tp n f = true from decide_eq_true hg) hf]
    · rw [gN_S hne hl (fun z => h2 (srt_2.mpr ⟨lf_no z.2, z.2⟩)), if_pos (srt_0 h1 h2)]
theorem TP.fr {s t : Sn} {tp : Fl} {n : Nat} {X : List Rf} (h : TP s tp n) (hF : Fr X s t) (h1 : ((21, 0, 0) : Rf) ∉ X) (h2 : ((22, 0, 0) : Rf) ∉ X) : TP t tp n := ⟨by rw [hF.1 _ h1]; exact h.1, fun k hk => by rw [hF.1 _ h2]; exact h.2 k hk⟩
theorem ne_nil {r : Rf} (h : r ≠ (20, 0, 0)) : r ∉ [((20, 0, 0) : Rf)] := fun z => h (List.mem_singleton.mp z)
theorem l2_skip {s : Sn} {tp : Fl} {n k0 : Nat} {r : Fl} {P : Option Av → St → Prop} (hn : n ≤ 96) (h : TP s tp n) (hQ : TQ tp) (kk : ∀ s2 : Sn, s2.1 (20, 0, 0) = upd r 12 (nI (gF tp n k0)) → Fr [(20, 0, 0)] s s2 → Wp (d + 2) MX2_nextWord 51 [some (vR 20 0 0), none] [] (hN s2) P) : ∀ k, k ≤ n → gF tp n k = gF tp n k0 → ∀ s1 : Sn, s1.1 (20, 0, 0) = upd r 12 (nI k) → Fr [(20, 0, 0)] s s1 → Wp (d + 2) MX2_nextWord 8 [some (vR 20 0 0), none] [] (hN s1) P := by
  refine ind_up (fun k hk ih => ?_)
  intro hg s1 e1 hF
  have e12 : s1.1 (20, 0, 0) 12 = nI k := by rw [e1, upd_eq]
  have h1 := h.fr hF (by decide) (by decide)
  refine wp_aload_n dX2_nextWord_8 rfl rfl ?_
  refine wn_getI dX2_nextWord_9 fRX2_54 o20 rfl rfl ?_
  rw [e12]
  refine wp_aload_n dX2_nextWord_12 rfl rfl ?_
  refine wn_getR dX2_nextWord_13 fRX2_12 o20 rfl rfl rfl ?_
  refine wn_getI dX2_nextWord_16 fRX2_76 o21 rfl rfl ?_
  rw [h1.1]
  refine wp_icmp_ge (t := 51) dX2_nextWord_19 rfl rfl (fun h19 => ?_) (fun h19 => ?_)
  · have hz : gF tp n k = k := run_n (show ¬ pS tp n k = true from fun z => absurd (of_decide_eq_true z).1 (by have := (nI_leI (by omega) (by omega)).mp h19; omega))
    rw [hz] at hg
    exact kk s1 (by rw [e1, hg]) hF
  · have hl : k < n := by have := mt (nI_leI (by omega) (by omega)).mpr h19; omega
    refine wp_aload_n dX2_nextWord_22 rfl rfl ?_
    refine wn_getR dX2_nextWord_23 fRX2_12 o20 rfl rfl rfl ?_
    refine wp_aload_n dX2_nextWord_26 rfl rfl ?_
    refine wn_getI dX2_nextWord_27 fRX2_54 o20 rfl rfl ?_
    rw [e12]
    refine wn_callV1d dX2_nextWord_30 rRX2_88 (rcv_of o21 rfl) (Nat.le_of_ble_eq_true rfl) rfl (Nat.le_of_ble_eq_true rfl) rfl (c6_byteAt hn (by omega) h1) ?_
    refine wp_bipush (v := 32) dX2_nextWord_33 (by decide) rfl ?_
    refine wp_icmp_ne (t := 51) dX2_nextWord_35 rfl rfl (fun h35 => ?_) (fun h35 => ?_)
    · have hz : gF tp n k = k := run_n (show ¬ pS tp n k = true from fun z => h35 ((btC hn hQ hl (c := 32) (by decide)).mpr (of_decide_eq_true z).2))
      rw [hz] at hg
      exact kk s1 (by rw [e1, hg]) hF
    · refine wp_aload_n dX2_nextWord_38 rfl rfl ?_
      refine wp_dup dX2_nextWord_39 rfl rfl ?_
      refine wn_getI dX2_nextWord_40 fRX2_54 o20 rfl rfl ?_
      rw [e12]
      refine wp_iconst (v := 1) dX2_nextWord_43 (by decide) rfl ?_
      refine wp_iadd dX2_nextWord_44 rfl ?_
      rw [nI_1]
      refine wn_putI dX2_nextWord_45 fRX2_54 o20 rfl rfl rfl ?_
      refine wp_goto (t := 8) dX2_nextWord_48 rfl ?_
      have hz : gF tp n k = gF tp n (k + 1) := run_y (show pS tp n k = true from decide_eq_true ⟨hl, (btC hn hQ hl (c := 32) (by decide)).mp h35⟩) hl
      refine ih hl (hz.symm.trans hg) _ ?_ (hF.pt (by decide))
      rw [sI_row, e1, upd_upd]
theorem l2_run {s : Sn} {tp : Fl} {n k0 : Nat} {r : Fl} {x : Int32} {P : Option Av → St → Prop} (hn : n ≤ 96) (h : TP s tp n) (hQ : TQ tp) (hx : ¬ x = 0) (kk : ∀ s2 : Sn, s2.1 (20, 0, 0) = upd r 13 (nI k0) → Fr [(20, 0, 0)] s s2 → Wp (d + 2) MX2_nextWord 149 [some (vR 20 0 0), some (vI x)] [] (hN s2) P) : ∀ k, k ≤ n → run (pQ tp n x) (n - k) k = k0 → ∀ s1 : Sn, s1.1 (20, 0, 0) = upd r 13 (nI k) → Fr [(20, 0, 0)] s s1 → Wp (d + 2) MX2_nextWord 100 [some (vR 20 0 0), some (vI x)] [] (hN s1) P := by
  refine ind_up (fun k hk ih => ?_)
  intro hg s1 e1 hF
  have e13 : s1.1 (20, 0, 0) 13 = nI k := by rw [e1, upd_eq]
  have h1 := h.fr hF (by decide) (by decide)
  refine wp_iload_n dX2_nextWord_100 rfl rfl ?_
  refine wp_if_eq (t := 149) dX2_nextWord_101 rfl rfl (fun h101 => absurd h101 hx) (fun h101 => ?_)
  refine wp_aload_n dX2_nextWord_104 rfl rfl ?_
  refine wn_getI dX2_nextWord_105 fRX2_57 o20 rfl rfl ?_
  rw [e13]
  refine wp_aload_n dX2_nextWord_108 rfl rfl ?_
  refine wn_getR dX2_nextWord_109 fRX2_12 o20 rfl rfl rfl ?_
  refine wn_getI dX2_nextWord_112 fRX2_76 o21 rfl rfl ?_
  rw [h1.1]
  refine wp_icmp_ge (t := 149) dX2_nextWord_115 rfl rfl (fun h115 => ?_) (fun h115 => ?_)
  · have hz : run (pQ tp n x) (n - k) k = k := run_n (show ¬ pQ tp n x k = true from fun z => absurd (of_decide_eq_true z).1 (by have := (nI_leI (by omega) (by omega)).mp h115; omega))
    rw [hz] at hg
    exact kk s1 (by rw [e1, hg]) hF
  · have hl : k < n := by have := mt (nI_leI (by omega) (by omega)).mpr h115; omega
    refine wp_aload_n dX2_nextWord_118 rfl rfl ?_
    refine wn_getR dX2_nextWord_119 fRX2_12 o20 rfl rfl rfl ?_
    refine wp_aload_n dX2_nextWord_122 rfl rfl ?_
    refine wn_getI dX2_nextWord_123 fRX2_57 o20 rfl rfl ?_
    rw [e13]
    refine wn_callV1d dX2_nextWord_126 rRX2_88 (rcv_of o21 rfl) (Nat.le_of_ble_eq_true rfl) rfl (Nat.le_of_ble_eq_true rfl) rfl (c6_byteAt hn (by omega) h1) ?_
    refine wn_callS1d dX2_nextWord_129 rRX2_92 (Nat.le_of_ble_eq_true rfl) rfl (Nat.le_of_ble_eq_true rfl) rfl (c2_sortOf) ?_
    refine wp_iload_n dX2_nextWord_132 rfl rfl ?_
    refine wp_icmp_ne (t := 149) dX2_nextWord_133 rfl rfl (fun h133 => ?_) (fun h133 => ?_)
    · have hz : run (pQ tp n x) (n - k) k = k := run_n (show ¬ pQ tp n x k = true from fun z => h133 ((btS hn hQ hl).trans (of_decide_eq_true z).2))
      rw [hz] at hg
      exact kk s1 (by rw [e1, hg]) hF
    · refine wp_aload_n dX2_nextWord_136 rfl rfl ?_
      refine wp_dup dX2_nextWord_137 rfl rfl ?_
      refine wn_getI dX2_nextWord_138 fRX2_57 o20 rfl rfl ?_
      rw [e13]
      refine wp_iconst (v := 1) dX2_nextWord_141 (by decide) rfl ?_
      refine wp_iadd dX2_nextWord_142 rfl ?_
      rw [nI_1]
      refine wn_putI dX2_nextWord_143 fRX2_57 o20 rfl rfl rfl ?_
      refine wp_goto (t := 100) dX2_nextWord_146 rfl ?_
      have hz := run_y (show pQ tp n x k = true from decide_eq_true ⟨hl, (btS hn hQ hl).symm.trans h133⟩) hl
      refine ih hl (hz.symm.trans hg) _ ?_ (hF.pt (by decide))
      rw [sI_row, e1, upd_upd]
theorem c2_nextWord {s : Sn} {tp : Fl} {n k : Nat} (hn : n ≤ 96) (h : TP s tp n) (hQ : TQ tp) (hk : k ≤ n) (h13 : s.1 (20, 0, 0) 13 = nI k) : Ca (d + 2) MX2_nextWord [vR 20 0 0] (hN s) (Pv fun y t => y = bI (gF tp n k < n) ∧ t.1 (20, 0, 0) = upd (upd (s.1 (20, 0, 0)) 12 (nI (gF tp n k))) 13 (nI (gN tp n (gF tp n k))) ∧ Fr [(20, 0, 0)] s t) := by
  change Wp _ _ 0 [some _, none] [] _ _
  refine wp_aload_n dX2_nextWord_0 rfl rfl ?_
  refine wp_aload_n dX2_nextWord_1 rfl rfl ?_
  refine wn_getI dX2_nextWord_2 fRX2_57 o20 rfl rfl ?_
  rw [h13]
  refine wn_putI dX2_nextWord_5 fRX2_54 o20 rfl rfl rfl ?_
  obtain ⟨f, hf⟩ : ∃ f, gF tp n k = f := ⟨_, rfl⟩
  have hfle := gF_le (tp := tp) hk
  rw [hf] at hfle ⊢
  refine l2_skip (d := d) (s := s) (tp := tp) (n := n) (k0 := k) (r := s.1 (20, 0, 0)) hn h hQ (fun s2 q2 hF2 => ?_) k hk rfl _ (by rw [sI_row]) (Fr.rf.pt (by decide))
  rw [hf] at q2
  have q12 : s2.1 (20, 0, 0) 12 = nI f := by rw [q2, upd_eq]
  refine wp_aload_n dX2_nextWord_51 rfl rfl ?_
  refine wp_aload_n dX2_nextWord_52 rfl rfl ?_
  refine wn_getI dX2_nextWord_53 fRX2_54 o20 rfl rfl ?_
  rw [q12]
  refine wn_putI dX2_nextWord_56 fRX2_57 o20 rfl rfl rfl ?_
  have h3 : TP (sI s2 (20, 0, 0) 13 (nI f)) tp n := h.fr (hF2.pt (by decide)) (by decide) (by decide)
  refine wp_aload_n dX2_nextWord_59 rfl rfl ?_
  refine wn_getI dX2_nextWord_60 fRX2_54 o20 rfl rfl ?_
  rw [sI_nk (by decide), q12]
  refine wp_aload_n dX2_nextWord_63 rfl rfl ?_
  refine wn_getR dX2_nextWord_64 fRX2_12 o20 rfl rfl rfl ?_
  refine wn_getI dX2_nextWord_67 fRX2_76 o21 rfl rfl ?_
  rw [h3.1]
  refine wp_icmp_lt (t := 75) dX2_nextWord_70 rfl rfl (fun h70 => ?_) (fun h70 => ?_)
  · have hfn : f < n := (nI_ltI (by omega) (by omega)).mp h70
    refine wp_aload_n dX2_nextWord_75 rfl rfl ?_
    refine wn_getR dX2_nextWord_76 fRX2_12 o20 rfl rfl rfl ?_
    refine wp_aload_n dX2_nextWord_79 rfl rfl ?_
    refine wn_getI dX2_nextWord_80 fRX2_54 o20 rfl rfl ?_
    rw [sI_nk (by decide), q12]
    refine wn_callV1d dX2_nextWord_83 rRX2_88 (rcv_of o21 rfl) (Nat.le_of_ble_eq_true rfl) rfl (Nat.le_of_ble_eq_true rfl) rfl (c6_byteAt hn (by omega) h3) ?_
    refine wn_callS1d dX2_nextWord_86 rRX2_92 (Nat.le_of_ble_eq_true rfl) rfl (Nat.le_of_ble_eq_true rfl) rfl (c2_sortOf) ?_
    refine wp_istore_n (l' := [_, some _]) dX2_nextWord_89 rfl rfl ?_
    refine wp_aload_n dX2_nextWord_90 rfl rfl ?_
    refine wp_dup dX2_nextWord_91 rfl rfl ?_
    refine wn_getI dX2_nextWord_92 fRX2_57 o20 rfl rfl ?_
    rw [sI_row, upd_eq]
    refine wp_iconst (v := 1) dX2_nextWord_95 (by decide) rfl ?_
    refine wp_iadd dX2_nextWord_96 rfl ?_
    rw [nI_1]
    refine wn_putI dX2_nextWord_97 fRX2_57 o20 rfl rfl rfl ?_
    by_cases e0 : (srt (btA tp n f)) = 0
    · refine wp_iload_n dX2_nextWord_100 rfl rfl ?_
      refine wp_if_eq (t := 149) dX2_nextWord_101 rfl rfl (fun h101 => ?_) (fun h101 => absurd e0 h101)
      refine wp_iconst (v := 1) dX2_nextWord_149 (by decide) rfl ?_
      refine wp_iret dX2_nextWord_150 rfl (by decide) ?_
      refine ⟨_, _, rfl, rfl, (bI_t hfn).symm, ?_, (hF2.pt (by decide)).pt (by decide)⟩
      rw [sI_row, sI_row, q2, upd_upd, gN_q hfn, ← btS hn hQ hfn, if_pos e0]
    · refine l2_run (d := d) (s := (sI (sI s2 (20, 0, 0) 13 (nI f)) (20, 0, 0) 13 (nI (f + 1)))) (tp := tp) (n := n) (r := upd (s.1 (20, 0, 0)) 12 (nI f)) (k0 := run (pQ tp n (srt (btA tp n f))) (n - (f + 1)) (f + 1)) hn (h3.fr (X := [(20, 0, 0)]) (Fr.rf.pt (by decide)) (by decide) (by decide)) hQ e0 (fun s5 q5 hF5 => ?_) (f + 1) (by omega) rfl (sI (sI s2 (20, 0, 0) 13 (nI f)) (20, 0, 0) 13 (nI (f + 1))) (by rw [sI_row, sI_row, q2, upd_upd]) Fr.rf
      refine wp_iconst (v := 1) dX2_nextWord_149 (by decide) rfl ?_
      refine wp_iret dX2_nextWord_150 rfl (by decide) ?_
      refine ⟨_, _, rfl, rfl, (bI_t hfn).symm, ?_, ((hF2.pt (by decide)).pt (by decide)).tr hF5⟩
      rw [q5, gN_q hfn, ← btS hn hQ hfn, if_neg e0]
  · refine wp_iconst (v := 0) dX2_nextWord_73 (by decide) rfl ?_
    refine wp_iret dX2_nextWord_74 rfl (by decide) ?_
    have hfn : ¬ f < n := mt (nI_ltI (by omega) (by omega)).mpr h70
    have e : f = n := by omega
    refine ⟨_, _, rfl, rfl, (bI_f hfn).symm, ?_, hF2.pt (by decide)⟩
    rw [sI_row, q2, show gN tp n f = f from (if_pos e).trans e.symm]
end
