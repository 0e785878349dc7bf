/-! THE PURE PART, 9: the reference's drifts, claims, worths -/
theorem now_f {s : Sn} {k : Nat} {v : Int32} : (sI s (41, 11, 0) k v).1 (41, 0, 0) = s.1 (41, 0, 0) := sI_nr (by decide)
theorem oI_ge {o : Option Nat} (h : 0 ≤ oI o) : ∃ t, o = some t := by
  cases o with
  | none => exact absurd h (by decide)
  | some t => exact ⟨t, rfl⟩
theorem cts_lt {f : Fl} {key : Int32} {t : Nat} : ∀ {c : Nat}, cts f key c = some t → t < c ∧ f (105 + 2 * t) / 1000 = key
  | 0, h => by cases h
  | c + 1, h => by
    rw [cts] at h
    by_cases hc : f (105 + 2 * c) / 1000 = key
    · rw [if_pos hc] at h; cases h; exact ⟨Nat.lt_succ_self _, hc⟩
    · rw [if_neg hc] at h
      have := cts_lt h
      exact ⟨by omega, this.2⟩
theorem oI_lt {f : Fl} {key : Int32} {c : Nat} (hc : c ≤ 14) (h : ¬ 0 ≤ oI (cts f key c)) : cts f key c = none := by
  cases ho : cts f key c with
  | none => rfl
  | some t =>
    rw [ho] at h
    have := (cts_lt ho).1
    exact absurd (nI_pos' (by omega)) h
theorem evl_cong {fa fb : Int32 → Int32} (h : ∀ i : Int32, 0 ≤ i → i < 3 → fa i = fb i) : ∀ (cs st : List Int32) (n : Nat), wfd cs n = true → evl fa cs st = evl fb cs st := by
  intro cs
  induction cs with
  | nil => intro st n _; rfl
  | cons c cs ih =>
    intro st n hw
    rw [wfd] at hw
    rw [evl, evl]
    by_cases h0 : 0 ≤ c
    · rw [if_pos h0] at hw ⊢
      rw [if_pos h0]
      simp only [Bool.and_eq_true, decide_eq_true_eq] at hw
      by_cases h1 : c < 10000
      · rw [if_pos h1, if_pos h1]; exact ih _ _ hw.2.2
      · rw [if_neg h1, if_neg h1]
        have h10 := Int32.not_lt.mp h1
        obtain ⟨g1, g2⟩ := subI10 h10 hw.2.1
        rw [h (c - 10000) g1 (by
          obtain ⟨k, hk, e⟩ := nI_of (fun z => absurd (Int32.not_lt.mpr g1) (fun q => q z))
          rw [e] at g2 ⊢
          rw [nI_clamp hk] at g2
          have h3 := hw.2.1
          have hc : c = nI (k + 10000) := by
            rw [← nI_add, ← e, show nI 10000 = (10000 : Int32) from rfl, Int32.sub_add_cancel]
          rw [hc] at h3
          have h5 := (nI_ltI (by omega) (by omega)).mp (show nI (k + 10000) < nI 10003 from h3)
          exact show nI k < nI 3 from (nI_ltI hk (by omega)).mpr (by omega))]
        exact ih _ _ hw.2.2
    · rw [if_neg h0] at hw ⊢
      rw [if_neg h0]
      by_cases h1 : c = -10
      · rw [if_pos h1] at hw ⊢
        rw [if_pos h1]
        simp only [Bool.and_eq_true, decide_eq_true_eq] at hw
        exact ih _ _ hw.2
      · rw [if_neg h1] at hw ⊢
        rw [if_neg h1]
        simp only [Bool.and_eq_true, decide_eq_true_eq] at hw
        exact ih _ _ hw.2.2
theorem i3 {i : Int32} (h0 : 0 ≤ i) (h3 : i < 3) : i = 0 ∨ i = 1 ∨ i = 2 := by
  obtain ⟨k, hk, rfl⟩ := nI_of (Int32.not_lt.mpr h0)
  have := (nI_ltI hk (by omega)).mp (show nI k < nI 3 from h3)
  have : k = 0 ∨ k = 1 ∨ k = 2 := by omega
  rcases this with rfl | rfl | rfl
  · exact Or.inl rfl
  · exact Or.inr (Or.inl rfl)
  · exact Or.inr (Or.inr rfl)
section
variable {d : Nat} {s : Sn}
theorem c8_drifts {j c : Nat} (hj : j < 12) (hc : c ≤ 14) (h8 : s.1 (41, 0, 0) 8 = nI c) (hT : ∀ t, t < c → WT (s.1 (41, 0, 0)) t) : Ca (d + 2) MX8_driftsOf [vR 40 0 0, vI (nI j)] (hN s) (Pv fun x t => x = drf (s.1 (41, 0, 0)) j ∧ Fr [(41, 10, 0), (41, 11, 0)] s t) := by
  change Wp _ _ 0 [some _, some _, none, none] [] _ _
  have htn : tn (s.1 (41, 0, 0)) = c := by unfold tn; rw [h8, nI_clamp (by omega)]
  refine wp_aload_n dX8_driftsOf_0 rfl rfl ?_
  refine wp_iconst (v := 0) dX8_driftsOf_1 (by decide) rfl ?_
  refine wn_callV1d dX8_driftsOf_2 rRX8_89 (rcv_of o40 rfl) (Nat.le_of_ble_eq_true rfl) rfl (Nat.le_of_ble_eq_true rfl) rfl (c8_counts hc h8) ?_
  refine wp_istore_n (l' := [_, _, some _, _]) dX8_driftsOf_5 rfl rfl ?_
  refine wp_aload_n dX8_driftsOf_6 rfl rfl ?_
  refine wn_getR dX8_driftsOf_7 fRX8_45 o40 rfl rfl rfl ?_
  refine wp_iconst (v := 0) dX8_driftsOf_10 (by decide) rfl ?_
  refine wp_aload_n dX8_driftsOf_11 rfl rfl ?_
  refine wn_getR dX8_driftsOf_12 fRX8_9 o40 rfl rfl rfl ?_
  refine wp_iconst (v := 3) dX8_driftsOf_15 (by decide) rfl ?_
  refine wn_iald (j := 3) dX8_driftsOf_16 (o41 0 rfl) rfl ⟨by decide, by decide⟩ (Nat.le_of_ble_eq_true rfl) rfl ?_
  refine wn_iast (j := 0) dX8_driftsOf_17 (o41 11 rfl) rfl ⟨by decide, by decide⟩ (Nat.le_of_ble_eq_true rfl) rfl ?_
  refine wp_aload_n dX8_driftsOf_18 rfl rfl ?_
  refine wn_getR dX8_driftsOf_19 fRX8_45 o40 rfl rfl rfl ?_
  refine wp_iconst (v := 1) dX8_driftsOf_22 (by decide) rfl ?_
  refine wp_aload_n dX8_driftsOf_23 rfl rfl ?_
  refine wp_iload_n dX8_driftsOf_24 rfl rfl ?_
  refine wp_iconst (v := 2) dX8_driftsOf_25 (by decide) rfl ?_
  refine wn_callV2d dX8_driftsOf_26 rRX8_93 (rcv_of o40 rfl) (Nat.le_of_ble_eq_true rfl) rfl rfl (Nat.le_of_ble_eq_true rfl) rfl (c8_of (w := 2) hj (by decide)) ?_
  simp only [now_f]
  refine wn_iast (j := 1) dX8_driftsOf_29 (o41 11 rfl) rfl ⟨by decide, by decide⟩ (Nat.le_of_ble_eq_true rfl) rfl ?_
  refine wp_aload_n dX8_driftsOf_30 rfl rfl ?_
  refine wn_getR dX8_driftsOf_31 fRX8_45 o40 rfl rfl rfl ?_
  refine wp_iconst (v := 2) dX8_driftsOf_34 (by decide) rfl ?_
  refine wp_aload_n dX8_driftsOf_35 rfl rfl ?_
  refine wp_iload_n dX8_driftsOf_36 rfl rfl ?_
  refine wp_iconst (v := 3) dX8_driftsOf_37 (by decide) rfl ?_
  refine wn_callV2d dX8_driftsOf_38 rRX8_93 (rcv_of o40 rfl) (Nat.le_of_ble_eq_true rfl) rfl rfl (Nat.le_of_ble_eq_true rfl) rfl (c8_of (w := 3) hj (by decide)) ?_
  simp only [now_f]
  refine wn_iast (j := 2) dX8_driftsOf_41 (o41 11 rfl) rfl ⟨by decide, by decide⟩ (Nat.le_of_ble_eq_true rfl) rfl ?_
  refine wp_iload_n dX8_driftsOf_42 rfl rfl ?_
  refine wp_if_ge (t := 65) dX8_driftsOf_43 rfl rfl (fun h43 => ?_) (fun h43 => ?_)
  · obtain ⟨t, hct⟩ := oI_ge h43
    have htc := (cts_lt hct).1
    obtain ⟨n, hn, hn2, hW⟩ := hT t htc
    rw [hct, show oI (some t) = nI t from rfl]
    refine wp_aload_n dX8_driftsOf_65 rfl rfl ?_
    refine wp_iload_n dX8_driftsOf_66 rfl rfl ?_
    refine wn_callV1i dX8_driftsOf_67 rRX8_97 (rcv_of o40 rfl) (Nat.le_of_ble_eq_true rfl) rfl (Nat.le_of_ble_eq_true rfl) rfl (c8_works (by omega) hn (by simp only [now_f]; exact hn2) (by simp only [now_f]; exact hW)) (fun x67 s67 hq67 => ?_)
    obtain ⟨e67, f67⟩ := hq67
    simp only [now_f] at e67
    have eT : x67 = evT (s.1 (41, 0, 0)) t (fa3 (s.1 (41, 0, 0) 3) (s.1 (41, 0, 0) (45 + 5 * j + 2)) (s.1 (41, 0, 0) (45 + 5 * j + 3))) := by
      rw [e67, evT, nco, hn2, nI_clamp (by omega)]
      congr 1
      refine evl_cong (fun i g1 g2 => ?_) _ _ 0 hW
      rcases i3 g1 g2 with rfl | rfl | rfl <;> rfl
    refine wp_iconst (v := 0) dX8_driftsOf_70 (by decide) rfl ?_
    refine wp_bipush (v := 12) dX8_driftsOf_71 (by decide) rfl ?_
    refine wn_callS3d dX8_driftsOf_73 rRX8_100 (Nat.le_of_ble_eq_true rfl) rfl rfl rfl (Nat.le_of_ble_eq_true rfl) rfl (c8_within) ?_
    refine wp_istore_n (l' := [_, _, _, some _]) dX8_driftsOf_76 rfl rfl ?_
    refine wp_aload_n dX8_driftsOf_77 rfl rfl ?_
    refine wp_iload_n dX8_driftsOf_78 rfl rfl ?_
    refine wp_iconst (v := 0) dX8_driftsOf_79 (by decide) rfl ?_
    refine wn_callV2d dX8_driftsOf_80 rRX8_93 (rcv_of o40 rfl) (Nat.le_of_ble_eq_true rfl) rfl rfl (Nat.le_of_ble_eq_true rfl) rfl (c8_of (w := 0) hj (by decide)) ?_
    rw [show s67.1 (41, 0, 0) = s.1 (41, 0, 0) from f67.1 _ (by decide)]
    refine wp_tsw5 (c0 := 1) (c1 := 2) (c2 := 3) (c3 := 4) (c4 := 5) (t0 := 116) (t1 := 120) (t2 := 124) (t3 := 142) (t4 := 151) (t := 153) dX8_driftsOf_83 rfl (by decide) (by decide) (by decide) (by decide) (by decide) rfl rfl rfl rfl rfl rfl rfl rfl rfl rfl rfl (fun k83 => ?_) (fun k83 => ?_) (fun k83 => ?_) (fun k83 => ?_) (fun k83 => ?_) (fun n83_0 n83_1 n83_2 n83_3 n83_4 => ?_)
    · refine wp_iload_n dX8_driftsOf_116 rfl rfl ?_
      refine wp_iconst (v := 2) dX8_driftsOf_117 (by decide) rfl ?_
      refine wp_idiv dX8_driftsOf_118 (by decide) rfl ?_
      refine wp_iret dX8_driftsOf_119 rfl rfl ?_
      refine ⟨_, _, rfl, rfl, ?_, ?_⟩
      · rw [drf, pln, htn, hct]
        dsimp only
        rw [← eT]
        rw [k83]
        rfl
      · exact (Fr.pt (Fr.pt (Fr.pt Fr.rf (by decide)) (by decide)) (by decide)).tr (f67.wd (by decide))
    · refine wp_iload_n dX8_driftsOf_120 rfl rfl ?_
      refine wp_iconst (v := 1) dX8_driftsOf_121 (by decide) rfl ?_
      refine wp_iadd dX8_driftsOf_122 rfl ?_
      refine wp_iret dX8_driftsOf_123 rfl rfl ?_
      refine ⟨_, _, rfl, rfl, ?_, ?_⟩
      · rw [drf, pln, htn, hct]
        dsimp only
        rw [← eT]
        rw [k83]
        rfl
      · exact (Fr.pt (Fr.pt (Fr.pt Fr.rf (by decide)) (by decide)) (by decide)).tr (f67.wd (by decide))
    · refine wp_aload_n dX8_driftsOf_124 rfl rfl ?_
      refine wn_getR dX8_driftsOf_125 fRX8_9 o40 rfl rfl rfl ?_
      refine wp_iconst (v := 3) dX8_driftsOf_128 (by decide) rfl ?_
      refine wn_iald (j := 3) dX8_driftsOf_129 (o41 0 rfl) rfl ⟨by decide, by decide⟩ (Nat.le_of_ble_eq_true rfl) rfl ?_
      rw [show s67.1 (41, 0, 0) = s.1 (41, 0, 0) from f67.1 _ (by decide)]
      refine wp_iconst (v := 5) dX8_driftsOf_130 (by decide) rfl ?_
      refine wp_icmp_ge (t := 138) dX8_driftsOf_131 rfl rfl (fun h131 => ?_) (fun h131 => ?_)
      · refine wp_iload_n dX8_driftsOf_138 rfl rfl ?_
        refine wp_iconst (v := 2) dX8_driftsOf_139 (by decide) rfl ?_
        refine wp_idiv dX8_driftsOf_140 (by decide) rfl ?_
        refine wp_iret dX8_driftsOf_141 rfl rfl ?_
        refine ⟨_, _, rfl, rfl, ?_, ?_⟩
        · rw [drf, pln, htn, hct]
          dsimp only
          rw [← eT]
          rw [k83]
          show _ = (if s.1 (41, 0, 0) 3 < 5 then (0 : Int32) else _)
          rw [if_neg (Int32.not_lt.mpr h131)]
        · exact (Fr.pt (Fr.pt (Fr.pt Fr.rf (by decide)) (by decide)) (by decide)).tr (f67.wd (by decide))
      · refine wp_iconst (v := 0) dX8_driftsOf_134 (by decide) rfl ?_
        refine wp_goto (t := 141) dX8_driftsOf_135 rfl ?_
        refine wp_iret dX8_driftsOf_141 rfl rfl ?_
        refine ⟨_, _, rfl, rfl, ?_, ?_⟩
        · rw [drf, pln, htn, hct]
          dsimp only
          rw [← eT]
          rw [k83]
          show _ = (if s.1 (41, 0, 0) 3 < 5 then (0 : Int32) else _)
          rw [if_pos (Int32.not_le.mp h131)]
        · exact (Fr.pt (Fr.pt (Fr.pt Fr.rf (by decide)) (by decide)) (by decide)).tr (f67.wd (by decide))
    · refine wp_iload_n dX8_driftsOf_142 rfl rfl ?_
      refine wp_iconst (v := 1) dX8_driftsOf_143 (by decide) rfl ?_
      refine wp_iadd dX8_driftsOf_144 rfl ?_
      refine wp_iconst (v := 0) dX8_driftsOf_145 (by decide) rfl ?_
      refine wp_iconst (v := 3) dX8_driftsOf_146 (by decide) rfl ?_
      refine wn_callS3d dX8_driftsOf_147 rRX8_100 (Nat.le_of_ble_eq_true rfl) rfl rfl rfl (Nat.le_of_ble_eq_true rfl) rfl (c8_within) ?_
      refine wp_iret dX8_driftsOf_150 rfl rfl ?_
      refine ⟨_, _, rfl, rfl, ?_, ?_⟩
      · rw [drf, pln, htn, hct]
        dsimp only
        rw [← eT]
        rw [k83]
        rfl
      · exact (Fr.pt (Fr.pt (Fr.pt Fr.rf (by decide)) (by decide)) (by decide)).tr (f67.wd (by decide))
    · refine wp_iconst (v := 0) dX8_driftsOf_151 (by decide) rfl ?_
      refine wp_iret dX8_driftsOf_152 rfl rfl ?_
      refine ⟨_, _, rfl, rfl, ?_, ?_⟩
      · rw [drf, pln, htn, hct]
        dsimp only
        rw [← eT]
        rw [k83]
        rfl
      · exact (Fr.pt (Fr.pt (Fr.pt Fr.rf (by decide)) (by decide)) (by decide)).tr (f67.wd (by decide))
    · refine wp_iload_n dX8_driftsOf_153 rfl rfl ?_
      refine wp_iret dX8_driftsOf_154 rfl rfl ?_
      refine ⟨_, _, rfl, rfl, ?_, ?_⟩
      · rw [drf, pln, htn, hct]
        dsimp only
        rw [← eT]
        unfold kdr
        rw [if_neg n83_0, if_neg n83_1, if_neg n83_2, if_neg n83_3, if_neg n83_4]
      · exact (Fr.pt (Fr.pt (Fr.pt Fr.rf (by decide)) (by decide)) (by decide)).tr (f67.wd (by decide))
  · have hct := oI_lt hc h43
    refine wp_aload_n dX8_driftsOf_46 rfl rfl ?_
    refine wn_getR dX8_driftsOf_47 fRX8_9 o40 rfl rfl rfl ?_
    refine wp_iconst (v := 3) dX8_driftsOf_50 (by decide) rfl ?_
    refine wn_iald (j := 3) dX8_driftsOf_51 (o41 0 rfl) rfl ⟨by decide, by decide⟩ (Nat.le_of_ble_eq_true rfl) rfl ?_
    simp only [now_f]
    refine wp_aload_n dX8_driftsOf_52 rfl rfl ?_
    refine wp_iload_n dX8_driftsOf_53 rfl rfl ?_
    refine wp_iconst (v := 2) dX8_driftsOf_54 (by decide) rfl ?_
    refine wn_callV2d dX8_driftsOf_55 rRX8_93 (rcv_of o40 rfl) (Nat.le_of_ble_eq_true rfl) rfl rfl (Nat.le_of_ble_eq_true rfl) rfl (c8_of (w := 2) hj (by decide)) ?_
    simp only [now_f]
    refine wp_bipush (v := 10) dX8_driftsOf_58 (by decide) rfl ?_
    refine wp_idiv dX8_driftsOf_60 (by decide) rfl ?_
    refine wp_isub dX8_driftsOf_61 rfl ?_
    refine wp_goto (t := 70) dX8_driftsOf_62 rfl ?_
    refine wp_iconst (v := 0) dX8_driftsOf_70 (by decide) rfl ?_
    refine wp_bipush (v := 12) dX8_driftsOf_71 (by decide) rfl ?_
    refine wn_callS3d dX8_driftsOf_73 rRX8_100 (Nat.le_of_ble_eq_true rfl) rfl rfl rfl (Nat.le_of_ble_eq_true rfl) rfl (c8_within) ?_
    refine wp_istore_n (l' := [_, _, _, some _]) dX8_driftsOf_76 rfl rfl ?_
    refine wp_aload_n dX8_driftsOf_77 rfl rfl ?_
    refine wp_iload_n dX8_driftsOf_78 rfl rfl ?_
    refine wp_iconst (v := 0) dX8_driftsOf_79 (by decide) rfl ?_
    refine wn_callV2d dX8_driftsOf_80 rRX8_93 (rcv_of o40 rfl) (Nat.le_of_ble_eq_true rfl) rfl rfl (Nat.le_of_ble_eq_true rfl) rfl (c8_of (w := 0) hj (by decide)) ?_
    simp only [now_f]
    refine wp_tsw5 (c0 := 1) (c1 := 2) (c2 := 3) (c3 := 4) (c4 := 5) (t0 := 116) (t1 := 120) (t2 := 124) (t3 := 142) (t4 := 151) (t := 153) dX8_driftsOf_83 rfl (by decide) (by decide) (by decide) (by decide) (by decide) rfl rfl rfl rfl rfl rfl rfl rfl rfl rfl rfl (fun k83 => ?_) (fun k83 => ?_) (fun k83 => ?_) (fun k83 => ?_) (fun k83 => ?_) (fun n83_0 n83_1 n83_2 n83_3 n83_4 => ?_)
    · refine wp_iload_n dX8_driftsOf_116 rfl rfl ?_
      refine wp_iconst (v := 2) dX8_driftsOf_117 (by decide) rfl ?_
      refine wp_idiv dX8_driftsOf_118 (by decide) rfl ?_
      refine wp_iret dX8_driftsOf_119 rfl rfl ?_
      refine ⟨_, _, rfl, rfl, ?_, ?_⟩
      · rw [drf, pln, htn, hct]
        rw [k83]
        rfl
      · exact Fr.pt (Fr.pt (Fr.pt Fr.rf (by decide)) (by decide)) (by decide)
    · refine wp_iload_n dX8_driftsOf_120 rfl rfl ?_
      refine wp_iconst (v := 1) dX8_driftsOf_121 (by decide) rfl ?_
      refine wp_iadd dX8_driftsOf_122 rfl ?_
      refine wp_iret dX8_driftsOf_123 rfl rfl ?_
      refine ⟨_, _, rfl, rfl, ?_, ?_⟩
      · rw [drf, pln, htn, hct]
        rw [k83]
        rfl
      · exact Fr.pt (Fr.pt (Fr.pt Fr.rf (by decide)) (by decide)) (by decide)
    · refine wp_aload_n dX8_driftsOf_124 rfl rfl ?_
      refine wn_getR dX8_driftsOf_125 fRX8_9 o40 rfl rfl rfl ?_
      refine wp_iconst (v := 3) dX8_driftsOf_128 (by decide) rfl ?_
      refine wn_iald (j := 3) dX8_driftsOf_129 (o41 0 rfl) rfl ⟨by decide, by decide⟩ (Nat.le_of_ble_eq_true rfl) rfl ?_
      simp only [now_f]
      refine wp_iconst (v := 5) dX8_driftsOf_130 (by decide) rfl ?_
      refine wp_icmp_ge (t := 138) dX8_driftsOf_131 rfl rfl (fun h131 => ?_) (fun h131 => ?_)
      · refine wp_iload_n dX8_driftsOf_138 rfl rfl ?_
        refine wp_iconst (v := 2) dX8_driftsOf_139 (by decide) rfl ?_
        refine wp_idiv dX8_driftsOf_140 (by decide) rfl ?_
        refine wp_iret dX8_driftsOf_141 rfl rfl ?_
        refine ⟨_, _, rfl, rfl, ?_, ?_⟩
        · rw [drf, pln, htn, hct]
          rw [k83]
          show _ = (if s.1 (41, 0, 0) 3 < 5 then (0 : Int32) else _)
          rw [if_neg (Int32.not_lt.mpr h131)]
        · exact Fr.pt (Fr.pt (Fr.pt Fr.rf (by decide)) (by decide)) (by decide)
      · refine wp_iconst (v := 0) dX8_driftsOf_134 (by decide) rfl ?_
        refine wp_goto (t := 141) dX8_driftsOf_135 rfl ?_
        refine wp_iret dX8_driftsOf_141 rfl rfl ?_
        refine ⟨_, _, rfl, rfl, ?_, ?_⟩
        · rw [drf, pln, htn, hct]
          rw [k83]
          show _ = (if s.1 (41, 0, 0) 3 < 5 then (0 : Int32) else _)
          rw [if_pos (Int32.not_le.mp h131)]
        · exact Fr.pt (Fr.pt (Fr.pt Fr.rf (by decide)) (by decide)) (by decide)
    · refine wp_iload_n dX8_driftsOf_142 rfl rfl ?_
      refine wp_iconst (v := 1) dX8_driftsOf_143 (by decide) rfl ?_
      refine wp_iadd dX8_driftsOf_144 rfl ?_
      refine wp_iconst (v := 0) dX8_driftsOf_145 (by decide) rfl ?_
      refine wp_iconst (v := 3) dX8_driftsOf_146 (by decide) rfl ?_
      refine wn_callS3d dX8_driftsOf_147 rRX8_100 (Nat.le_of_ble_eq_true rfl) rfl rfl rfl (Nat.le_of_ble_eq_true rfl) rfl (c8_within) ?_
      refine wp_iret dX8_driftsOf_150 rfl rfl ?_
      refine ⟨_, _, rfl, rfl, ?_, ?_⟩
      · rw [drf, pln, htn, hct]
        rw [k83]
        rfl
      · exact Fr.pt (Fr.pt (Fr.pt Fr.rf (by decide)) (by decide)) (by decide)
    · refine wp_iconst (v := 0) dX8_driftsOf_151 (by decide) rfl ?_
      refine wp_iret dX8_driftsOf_152 rfl rfl ?_
      refine ⟨_, _, rfl, rfl, ?_, ?_⟩
      · rw [drf, pln, htn, hct]
        rw [k83]
        rfl
      · exact Fr.pt (Fr.pt (Fr.pt Fr.rf (by decide)) (by decide)) (by decide)
    · refine wp_iload_n dX8_driftsOf_153 rfl rfl ?_
      refine wp_iret dX8_driftsOf_154 rfl rfl ?_
      refine ⟨_, _, rfl, rfl, ?_, ?_⟩
      · rw [drf, pln, htn, hct]
        unfold kdr
        rw [if_neg n83_0, if_neg n83_1, if_neg n83_2, if_neg n83_3, if_neg n83_4]
      · exact Fr.pt (Fr.pt (Fr.pt Fr.rf (by decide)) (by decide)) (by decide)
theorem c8_claimed {j : Nat} (hj : j < 12) : Ca (d + 1) MX8_claimedOf [vR 40 0 0, vI (nI j)] (hN s) (Pd (clm (s.1 (41, 0, 0) (45 + 5 * j + 0)) (s.1 (41, 0, 0) 5)) s) := by
  change Wp _ _ 0 [some _, some _] [] _ _
  refine wp_aload_n dX8_claimedOf_0 rfl rfl ?_
  refine wp_iload_n dX8_claimedOf_1 rfl rfl ?_
  refine wp_iconst (v := 0) dX8_claimedOf_2 (by decide) rfl ?_
  refine wn_callV2d dX8_claimedOf_3 rRX8_93 (rcv_of o40 rfl) (Nat.le_of_ble_eq_true rfl) rfl rfl (Nat.le_of_ble_eq_true rfl) rfl (c8_of (w := 0) hj (by decide)) ?_
  refine wp_tsw4 (c0 := 2) (c1 := 3) (c2 := 4) (c3 := 5) (t0 := 36) (t1 := 46) (t2 := 55) (t3 := 55) (t := 57) dX8_claimedOf_6 rfl (by decide) (by decide) (by decide) (by decide) rfl rfl rfl rfl rfl rfl rfl rfl rfl (fun k6 => ?_) (fun k6 => ?_) (fun k6 => ?_) (fun k6 => ?_) (fun n6_0 n6_1 n6_2 n6_3 => ?_)
  · refine wp_aload_n dX8_claimedOf_36 rfl rfl ?_
    refine wn_getR dX8_claimedOf_37 fRX8_9 o40 rfl rfl rfl ?_
    refine wp_iconst (v := 5) dX8_claimedOf_40 (by decide) rfl ?_
    refine wn_iald (j := 5) dX8_claimedOf_41 (o41 0 rfl) rfl ⟨by decide, by decide⟩ (Nat.le_of_ble_eq_true rfl) rfl ?_
    refine wp_bipush (v := 10) dX8_claimedOf_42 (by decide) rfl ?_
    refine wp_iadd dX8_claimedOf_44 rfl ?_
    refine wp_iret dX8_claimedOf_45 rfl rfl ?_
    refine ⟨_, _, rfl, rfl, ?_, rfl⟩
    rw [k6]
    rfl
  · refine wp_aload_n dX8_claimedOf_46 rfl rfl ?_
    refine wn_getR dX8_claimedOf_47 fRX8_9 o40 rfl rfl rfl ?_
    refine wp_iconst (v := 5) dX8_claimedOf_50 (by decide) rfl ?_
    refine wn_iald (j := 5) dX8_claimedOf_51 (o41 0 rfl) rfl ⟨by decide, by decide⟩ (Nat.le_of_ble_eq_true rfl) rfl ?_
    refine wp_iconst (v := 2) dX8_claimedOf_52 (by decide) rfl ?_
    refine wp_idiv dX8_claimedOf_53 (by decide) rfl ?_
    refine wp_iret dX8_claimedOf_54 rfl rfl ?_
    refine ⟨_, _, rfl, rfl, ?_, rfl⟩
    rw [k6]
    rfl
  · refine wp_iconst (v := 0) dX8_claimedOf_55 (by decide) rfl ?_
    refine wp_iret dX8_claimedOf_56 rfl rfl ?_
    refine ⟨_, _, rfl, rfl, ?_, rfl⟩
    rw [k6]
    rfl
  · refine wp_iconst (v := 0) dX8_claimedOf_55 (by decide) rfl ?_
    refine wp_iret dX8_claimedOf_56 rfl rfl ?_
    refine ⟨_, _, rfl, rfl, ?_, rfl⟩
    rw [k6]
    rfl
  · refine wp_aload_n dX8_claimedOf_57 rfl rfl ?_
    refine wn_getR dX8_claimedOf_58 fRX8_9 o40 rfl rfl rfl ?_
    refine wp_iconst (v := 5) dX8_claimedOf_61 (by decide) rfl ?_
    refine wn_iald (j := 5) dX8_claimedOf_62 (o41 0 rfl) rfl ⟨by decide, by decide⟩ (Nat.le_of_ble_eq_true rfl) rfl ?_
    refine wp_iret dX8_claimedOf_63 rfl rfl ?_
    refine ⟨_, _, rfl, rfl, ?_, rfl⟩
    unfold clm
    rw [if_neg n6_0, if_neg n6_1, if_neg n6_2, if_neg n6_3]
theorem c8_worth {j : Nat} (hj : j < 12) : Ca (d + 1) MX8_worthOf [vR 40 0 0, vI (nI j)] (hN s) (Pd (wor (s.1 (41, 0, 0) (45 + 5 * j + 0)) (s.1 (41, 0, 0) (45 + 5 * j + 2))) s) := by
  change Wp _ _ 0 [some _, some _, none] [] _ _
  refine wp_aload_n dX8_worthOf_0 rfl rfl ?_
  refine wp_iload_n dX8_worthOf_1 rfl rfl ?_
  refine wp_iconst (v := 2) dX8_worthOf_2 (by decide) rfl ?_
  refine wn_callV2d dX8_worthOf_3 rRX8_93 (rcv_of o40 rfl) (Nat.le_of_ble_eq_true rfl) rfl rfl (Nat.le_of_ble_eq_true rfl) rfl (c8_of (w := 2) hj (by decide)) ?_
  refine wp_istore_n (l' := [_, _, some _]) dX8_worthOf_6 rfl rfl ?_
  refine wp_aload_n dX8_worthOf_7 rfl rfl ?_
  refine wp_iload_n dX8_worthOf_8 rfl rfl ?_
  refine wp_iconst (v := 0) dX8_worthOf_9 (by decide) rfl ?_
  refine wn_callV2d dX8_worthOf_10 rRX8_93 (rcv_of o40 rfl) (Nat.le_of_ble_eq_true rfl) rfl rfl (Nat.le_of_ble_eq_true rfl) rfl (c8_of (w := 0) hj (by decide)) ?_
  refine wp_tsw5 (c0 := 1) (c1 := 2) (c2 := 3) (c3 := 4) (c4 := 5) (t0 := 48) (t1 := 53) (t2 := 58) (t3 := 65) (t4 := 70) (t := 72) dX8_worthOf_13 rfl (by decide) (by decide) (by decide) (by decide) (by decide) rfl rfl rfl rfl rfl rfl rfl rfl rfl rfl rfl (fun k13 => ?_) (fun k13 => ?_) (fun k13 => ?_) (fun k13 => ?_) (fun k13 => ?_) (fun n13_0 n13_1 n13_2 n13_3 n13_4 => ?_)
  · refine wp_iload_n dX8_worthOf_48 rfl rfl ?_
    refine wp_bipush (v := 7) dX8_worthOf_49 (by decide) rfl ?_
    refine wp_iadd dX8_worthOf_51 rfl ?_
    refine wp_iret dX8_worthOf_52 rfl rfl ?_
    refine ⟨_, _, rfl, rfl, ?_, rfl⟩
    rw [k13]
    rfl
  · refine wp_bipush (v := 99) dX8_worthOf_53 (by decide) rfl ?_
    refine wp_iload_n dX8_worthOf_55 rfl rfl ?_
    refine wp_isub dX8_worthOf_56 rfl ?_
    refine wp_iret dX8_worthOf_57 rfl rfl ?_
    refine ⟨_, _, rfl, rfl, ?_, rfl⟩
    rw [k13]
    rfl
  · refine wp_iconst (v := 2) dX8_worthOf_58 (by decide) rfl ?_
    refine wp_iload_n dX8_worthOf_59 rfl rfl ?_
    refine wp_bipush (v := 7) dX8_worthOf_60 (by decide) rfl ?_
    refine wp_iadd dX8_worthOf_62 rfl ?_
    refine wp_imul dX8_worthOf_63 rfl ?_
    refine wp_iret dX8_worthOf_64 rfl rfl ?_
    refine ⟨_, _, rfl, rfl, ?_, rfl⟩
    rw [k13]
    rfl
  · refine wp_bipush (v := 94) dX8_worthOf_65 (by decide) rfl ?_
    refine wp_iload_n dX8_worthOf_67 rfl rfl ?_
    refine wp_isub dX8_worthOf_68 rfl ?_
    refine wp_iret dX8_worthOf_69 rfl rfl ?_
    refine ⟨_, _, rfl, rfl, ?_, rfl⟩
    rw [k13]
    rfl
  · refine wp_iconst (v := 1) dX8_worthOf_70 (by decide) rfl ?_
    refine wp_iret dX8_worthOf_71 rfl rfl ?_
    refine ⟨_, _, rfl, rfl, ?_, rfl⟩
    rw [k13]
    rfl
  · refine wp_iload_n dX8_worthOf_72 rfl rfl ?_
    refine wp_iret dX8_worthOf_73 rfl rfl ?_
    refine ⟨_, _, rfl, rfl, ?_, rfl⟩
    unfold wor
    rw [if_neg n13_0, if_neg n13_1, if_neg n13_2, if_neg n13_3, if_neg n13_4]
end
