/-! THE PURE PART, 8: the reference works texts out -/
section
variable {d : Nat} {s : Sn}
theorem c8_two {c a b : Int32} : Ca d MX8_two [vI c, vI a, vI b] (hN s) (Pd (two c a b) s) := by
  change Wp _ _ 0 [some _, some _, some _] [] _ _
  refine wp_iload_n dX8_two_0 rfl rfl ?_
  refine wp_tsw8 (c0 := (-8)) (c1 := (-7)) (c2 := (-6)) (c3 := (-5)) (c4 := (-4)) (c5 := (-3)) (c6 := (-2)) (c7 := (-1)) (t0 := 117) (t1 := 113) (t2 := 109) (t3 := 98) (t4 := 87) (t5 := 76) (t6 := 62) (t7 := 48) (t := 121) dX8_two_1 rfl (by decide) (by decide) (by decide) (by decide) (by decide) (by decide) (by decide) (by decide) rfl rfl rfl rfl rfl rfl rfl rfl rfl rfl rfl rfl rfl rfl rfl rfl rfl (fun k1 => ?_) (fun k1 => ?_) (fun k1 => ?_) (fun k1 => ?_) (fun k1 => ?_) (fun k1 => ?_) (fun k1 => ?_) (fun k1 => ?_) (fun n1_0 n1_1 n1_2 n1_3 n1_4 n1_5 n1_6 n1_7 => ?_)
  · refine wp_iload_n dX8_two_117 rfl rfl ?_
    refine wp_iload_n dX8_two_118 rfl rfl ?_
    refine wp_imul dX8_two_119 rfl ?_
    refine wp_iret dX8_two_120 rfl rfl ?_
    refine ⟨_, _, rfl, rfl, ?_, rfl⟩
    subst k1
    rfl
  · refine wp_iload_n dX8_two_113 rfl rfl ?_
    refine wp_iload_n dX8_two_114 rfl rfl ?_
    refine wp_isub dX8_two_115 rfl ?_
    refine wp_iret dX8_two_116 rfl rfl ?_
    refine ⟨_, _, rfl, rfl, ?_, rfl⟩
    subst k1
    rfl
  · refine wp_iload_n dX8_two_109 rfl rfl ?_
    refine wp_iload_n dX8_two_110 rfl rfl ?_
    refine wp_iadd dX8_two_111 rfl ?_
    refine wp_iret dX8_two_112 rfl rfl ?_
    refine ⟨_, _, rfl, rfl, ?_, rfl⟩
    subst k1
    rfl
  · refine wp_iload_n dX8_two_98 rfl rfl ?_
    refine wp_iload_n dX8_two_99 rfl rfl ?_
    refine wp_icmp_le (t := 107) dX8_two_100 rfl rfl (fun h100 => ?_) (fun h100 => ?_)
    · refine wp_iconst (v := 0) dX8_two_107 (by decide) rfl ?_
      refine wp_iret dX8_two_108 rfl rfl ?_
      refine ⟨_, _, rfl, rfl, ?_, rfl⟩
      subst k1
      show _ = bI _
      unfold bI
      split <;> first | rfl | (exfalso; simp only [Int32.lt_iff_toInt_lt, Int32.le_iff_toInt_le] at *; omega) | (exfalso; simp_all)
    · refine wp_iconst (v := 1) dX8_two_103 (by decide) rfl ?_
      refine wp_goto (t := 108) dX8_two_104 rfl ?_
      refine wp_iret dX8_two_108 rfl rfl ?_
      refine ⟨_, _, rfl, rfl, ?_, rfl⟩
      subst k1
      show _ = bI _
      unfold bI
      split <;> first | rfl | (exfalso; simp only [Int32.lt_iff_toInt_lt, Int32.le_iff_toInt_le] at *; omega) | (exfalso; simp_all)
  · refine wp_iload_n dX8_two_87 rfl rfl ?_
    refine wp_iload_n dX8_two_88 rfl rfl ?_
    refine wp_icmp_ne (t := 96) dX8_two_89 rfl rfl (fun h89 => ?_) (fun h89 => ?_)
    · refine wp_iconst (v := 0) dX8_two_96 (by decide) rfl ?_
      refine wp_iret dX8_two_97 rfl rfl ?_
      refine ⟨_, _, rfl, rfl, ?_, rfl⟩
      subst k1
      show _ = bI _
      unfold bI
      split <;> first | rfl | (exfalso; simp only [Int32.lt_iff_toInt_lt, Int32.le_iff_toInt_le] at *; omega) | (exfalso; simp_all)
    · refine wp_iconst (v := 1) dX8_two_92 (by decide) rfl ?_
      refine wp_goto (t := 97) dX8_two_93 rfl ?_
      refine wp_iret dX8_two_97 rfl rfl ?_
      refine ⟨_, _, rfl, rfl, ?_, rfl⟩
      subst k1
      show _ = bI _
      unfold bI
      split <;> first | rfl | (exfalso; simp only [Int32.lt_iff_toInt_lt, Int32.le_iff_toInt_le] at *; omega) | (exfalso; simp_all)
  · refine wp_iload_n dX8_two_76 rfl rfl ?_
    refine wp_iload_n dX8_two_77 rfl rfl ?_
    refine wp_icmp_ge (t := 85) dX8_two_78 rfl rfl (fun h78 => ?_) (fun h78 => ?_)
    · refine wp_iconst (v := 0) dX8_two_85 (by decide) rfl ?_
      refine wp_iret dX8_two_86 rfl rfl ?_
      refine ⟨_, _, rfl, rfl, ?_, rfl⟩
      subst k1
      show _ = bI _
      unfold bI
      split <;> first | rfl | (exfalso; simp only [Int32.lt_iff_toInt_lt, Int32.le_iff_toInt_le] at *; omega) | (exfalso; simp_all)
    · refine wp_iconst (v := 1) dX8_two_81 (by decide) rfl ?_
      refine wp_goto (t := 86) dX8_two_82 rfl ?_
      refine wp_iret dX8_two_86 rfl rfl ?_
      refine ⟨_, _, rfl, rfl, ?_, rfl⟩
      subst k1
      show _ = bI _
      unfold bI
      split <;> first | rfl | (exfalso; simp only [Int32.lt_iff_toInt_lt, Int32.le_iff_toInt_le] at *; omega) | (exfalso; simp_all)
  · refine wp_iload_n dX8_two_62 rfl rfl ?_
    refine wp_if_eq (t := 74) dX8_two_63 rfl rfl (fun h63 => ?_) (fun h63 => ?_)
    · refine wp_iconst (v := 0) dX8_two_74 (by decide) rfl ?_
      refine wp_iret dX8_two_75 rfl rfl ?_
      refine ⟨_, _, rfl, rfl, ?_, rfl⟩
      subst k1
      show _ = bI _
      unfold bI
      split <;> first | rfl | (exfalso; simp only [Int32.lt_iff_toInt_lt, Int32.le_iff_toInt_le] at *; omega) | (exfalso; simp_all)
    · refine wp_iload_n dX8_two_66 rfl rfl ?_
      refine wp_if_eq (t := 74) dX8_two_67 rfl rfl (fun h67 => ?_) (fun h67 => ?_)
      · refine wp_iconst (v := 0) dX8_two_74 (by decide) rfl ?_
        refine wp_iret dX8_two_75 rfl rfl ?_
        refine ⟨_, _, rfl, rfl, ?_, rfl⟩
        subst k1
        show _ = bI _
        unfold bI
        split <;> first | rfl | (exfalso; simp only [Int32.lt_iff_toInt_lt, Int32.le_iff_toInt_le] at *; omega) | (exfalso; simp_all)
      · refine wp_iconst (v := 1) dX8_two_70 (by decide) rfl ?_
        refine wp_goto (t := 75) dX8_two_71 rfl ?_
        refine wp_iret dX8_two_75 rfl rfl ?_
        refine ⟨_, _, rfl, rfl, ?_, rfl⟩
        subst k1
        show _ = bI _
        unfold bI
        split <;> first | rfl | (exfalso; simp only [Int32.lt_iff_toInt_lt, Int32.le_iff_toInt_le] at *; omega) | (exfalso; simp_all)
  · refine wp_iload_n dX8_two_48 rfl rfl ?_
    refine wp_if_ne (t := 56) dX8_two_49 rfl rfl (fun h49 => ?_) (fun h49 => ?_)
    · refine wp_iconst (v := 1) dX8_two_56 (by decide) rfl ?_
      refine wp_goto (t := 61) dX8_two_57 rfl ?_
      refine wp_iret dX8_two_61 rfl rfl ?_
      refine ⟨_, _, rfl, rfl, ?_, rfl⟩
      subst k1
      show _ = bI _
      unfold bI
      split <;> first | rfl | (exfalso; simp only [Int32.lt_iff_toInt_lt, Int32.le_iff_toInt_le] at *; omega) | (exfalso; simp_all)
    · refine wp_iload_n dX8_two_52 rfl rfl ?_
      refine wp_if_eq (t := 60) dX8_two_53 rfl rfl (fun h53 => ?_) (fun h53 => ?_)
      · refine wp_iconst (v := 0) dX8_two_60 (by decide) rfl ?_
        refine wp_iret dX8_two_61 rfl rfl ?_
        refine ⟨_, _, rfl, rfl, ?_, rfl⟩
        subst k1
        show _ = bI _
        unfold bI
        split <;> first | rfl | (exfalso; simp only [Int32.lt_iff_toInt_lt, Int32.le_iff_toInt_le] at *; omega) | (exfalso; simp_all)
      · refine wp_iconst (v := 1) dX8_two_56 (by decide) rfl ?_
        refine wp_goto (t := 61) dX8_two_57 rfl ?_
        refine wp_iret dX8_two_61 rfl rfl ?_
        refine ⟨_, _, rfl, rfl, ?_, rfl⟩
        subst k1
        show _ = bI _
        unfold bI
        split <;> first | rfl | (exfalso; simp only [Int32.lt_iff_toInt_lt, Int32.le_iff_toInt_le] at *; omega) | (exfalso; simp_all)
  · refine wp_iload_n dX8_two_121 rfl rfl ?_
    refine wp_if_ne (t := 129) dX8_two_122 rfl rfl (fun h122 => ?_) (fun h122 => ?_)
    · refine wp_iload_n dX8_two_129 rfl rfl ?_
      refine wp_iload_n dX8_two_130 rfl rfl ?_
      refine wp_idiv dX8_two_131 h122 rfl ?_
      refine wp_iret dX8_two_132 rfl rfl ?_
      refine ⟨_, _, rfl, rfl, ?_, rfl⟩
      unfold two
      rw [if_neg n1_0, if_neg n1_1, if_neg n1_2, if_neg n1_3, if_neg n1_4, if_neg n1_5, if_neg n1_6, if_neg n1_7]
      rw [if_neg h122]
    · refine wp_iconst (v := 0) dX8_two_125 (by decide) rfl ?_
      refine wp_goto (t := 132) dX8_two_126 rfl ?_
      refine wp_iret dX8_two_132 rfl rfl ?_
      refine ⟨_, _, rfl, rfl, ?_, rfl⟩
      unfold two
      rw [if_neg n1_0, if_neg n1_1, if_neg n1_2, if_neg n1_3, if_neg n1_4, if_neg n1_5, if_neg n1_6, if_neg n1_7]
      rw [if_pos h122]
def SP (A : Nat → Int32) : List Int32 → Prop
  | [] => True
  | a :: r => A r.length = a ∧ SP A r
theorem SP_upd {A : Nat → Int32} {k : Nat} {v : Int32} : ∀ {r : List Int32}, r.length ≤ k → SP A r → SP (upd A k v) r
  | [], _, _ => trivial
  | a :: r, hk, h => by
    have hk : r.length + 1 ≤ k := hk
    refine ⟨?_, SP_upd (by omega) h.2⟩
    show (if r.length = k then v else A r.length) = a
    rw [if_neg (by omega)]; exact h.1
theorem SP_push {A : Nat → Int32} {v : Int32} {r : List Int32} (h : SP A r) : SP (upd A r.length v) (v :: r) := ⟨by show (if r.length = r.length then v else _) = v; rw [if_pos rfl], SP_upd (Nat.le_refl _) h⟩
theorem cod_drop {f : Fl} {t n k : Nat} (h : k < n) : (cod f t n).drop k = f (133 + 96 * t + k) :: (cod f t n).drop (k + 1) := by
  unfold cod
  rw [← List.map_drop, ← List.map_drop, List.drop_eq_getElem_cons (by rw [List.length_range]; exact h), List.map_cons, List.getElem_range]
theorem cod_end {f : Fl} {t n : Nat} : (cod f t n).drop n = [] := by
  apply List.drop_eq_nil_of_le
  unfold cod
  rw [List.length_map, List.length_range]
  exact Nat.le_refl _
theorem ix_c {t k : Nat} : (133 : Int32) + 96 * nI t + nI k = nI (133 + 96 * t + k) := by
  rw [show (133 : Int32) = nI 133 from rfl, show (96 : Int32) = nI 96 from rfl, pk_mul, nI_add, nI_add]
theorem subI10 {c : Int32} (h1 : 10000 ≤ c) (h2 : c < 10003) : 0 ≤ c - 10000 ∧ (c - 10000).toNatClampNeg < 4 := by
  have e1 : (10000 : Int32).toInt = 10000 := by decide
  have e0 : (0 : Int32).toInt = 0 := by decide
  have h0 : ¬ c < 0 := by
    rw [Int32.lt_iff_toInt_lt]
    rw [Int32.le_iff_toInt_le] at h1
    omega
  obtain ⟨k, hk, rfl⟩ : ∃ k : Nat, k < 2 ^ 31 ∧ c = nI k := nI_of h0
  have g1 : 10000 ≤ k := (nI_leI (by omega) hk).mp h1
  have g2 : k < 10003 := (nI_ltI hk (by omega)).mp h2
  rw [show (10000 : Int32) = nI 10000 from rfl, pk_sub g1]
  exact ⟨nI_pos' (by omega), by rw [nI_clamp (by omega)]; omega⟩
theorem l8_works {t n : Nat} (ht : t < 14) (hn : n ≤ 96) : ∀ k, k ≤ n → ∀ (stk : List Int32) (s1 : Sn) (c5 : Option Av), Fr [(41, 10, 0)] s s1 → SP (s1.1 (41, 10, 0)) stk → wfd ((cod (s.1 (41, 0, 0)) t n).drop k) stk.length = true → stk.length ≤ 96 → Wp (d + 1) MX8_worksOut 21 [some (vR 40 0 0), some (vI (nI t)), some (vI (nI stk.length)), some (vI (nI n)), some (vI (nI k)), c5] [] (hN s1) (Pv fun x t1 => x = (evl (fun i => s.1 (41, 11, 0) i.toNatClampNeg) ((cod (s.1 (41, 0, 0)) t n).drop k) stk).headD 0 ∧ Fr [(41, 10, 0)] s t1) := by
  refine ind_up (fun k hk ih => ?_)
  intro stk s1 c5 hF hS hW hL
  refine wp_iload dX8_worksOut_21 rfl rfl ?_
  refine wp_iload_n dX8_worksOut_23 rfl rfl ?_
  refine wp_icmp_ge (t := 156) dX8_worksOut_24 rfl rfl (fun h24 => ?_) (fun h24 => ?_)
  · refine wp_aload_n dX8_worksOut_156 rfl rfl ?_
    refine wn_getR dX8_worksOut_157 fRX8_42 o40 rfl rfl rfl ?_
    refine wp_iconst (v := 0) dX8_worksOut_160 (by decide) rfl ?_
    refine wn_iald (j := 0) dX8_worksOut_161 (o41 10 rfl) rfl ⟨by decide, by decide⟩ (Nat.le_of_ble_eq_true rfl) rfl ?_
    refine wp_iret dX8_worksOut_162 rfl rfl ?_
    have hkn : k = n := by have := (nI_leI (by omega) (by omega)).mp h24; omega
    subst hkn
    rw [cod_end] at hW ⊢
    have h1 : stk.length = 1 := by simpa [wfd] using hW
    obtain ⟨a, rfl⟩ := List.length_eq_one_iff.mp h1
    exact ⟨_, _, rfl, rfl, hS.1, hF⟩
  · have hl : k < n := by have := mt (nI_leI (by omega) (by omega)).mpr h24; omega
    rw [cod_drop hl, wfd] at hW
    rw [cod_drop hl, evl]
    refine wp_aload_n dX8_worksOut_27 rfl rfl ?_
    refine wn_getR dX8_worksOut_28 fRX8_9 o40 rfl rfl rfl ?_
    refine wp_sipush (v := 133) dX8_worksOut_31 (by decide) rfl ?_
    refine wp_bipush (v := 96) dX8_worksOut_34 (by decide) rfl ?_
    refine wp_iload_n dX8_worksOut_36 rfl rfl ?_
    refine wp_imul dX8_worksOut_37 rfl ?_
    refine wp_iadd dX8_worksOut_38 rfl ?_
    refine wp_iload dX8_worksOut_39 rfl rfl ?_
    refine wp_iadd dX8_worksOut_41 rfl ?_
    refine wn_iald dX8_worksOut_42 (o41 0 rfl) rfl (nIx ix_c (by omega)) (by show _ < 1477; omega) rfl ?_
    rw [show s1.1 (41, 0, 0) = s.1 (41, 0, 0) from hF.1 _ (by decide)]
    generalize s.1 (41, 0, 0) (133 + 96 * t + k) = c at hW ⊢
    refine wp_istore (l' := [_, _, _, _, _, some _]) dX8_worksOut_43 rfl rfl ?_
    refine wp_iload dX8_worksOut_45 rfl rfl ?_
    refine wp_if_lt (t := 86) dX8_worksOut_47 rfl rfl (fun h47 => ?_) (fun h47 => ?_)
    · rw [if_neg (Int32.not_le.mpr h47)] at hW ⊢
      refine wp_iload dX8_worksOut_86 rfl rfl ?_
      refine wp_bipush (v := (-10)) dX8_worksOut_88 (by decide) rfl ?_
      refine wp_icmp_ne (t := 120) dX8_worksOut_90 rfl rfl (fun h90 => ?_) (fun h90 => ?_)
      · rw [if_neg h90] at hW ⊢
        simp only [Bool.and_eq_true, decide_eq_true_eq] at hW
        obtain ⟨b, a, r, rfl⟩ : ∃ b a r, stk = b :: a :: r := by cases stk with | nil => exact absurd hW.1 (by decide) | cons b q => cases q with | nil => exact absurd hW.1 (by show ¬ 2 ≤ 1; decide) | cons a r => exact ⟨b, a, r, rfl⟩
        have hL : r.length + 2 ≤ 96 := hL
        rw [show nI (b :: a :: r).length = nI (r.length + 1 + 1) from rfl]
        refine wp_iinc (l' := [_, _, some _, _, _, _]) (v := (-1)) dX8_worksOut_120 rfl (by decide) rfl rfl ?_
        rw [m1_sub, nI_pred]
        refine wp_aload_n dX8_worksOut_123 rfl rfl ?_
        refine wn_getR dX8_worksOut_124 fRX8_42 o40 rfl rfl rfl ?_
        refine wp_iload_n dX8_worksOut_127 rfl rfl ?_
        refine wp_iconst (v := 1) dX8_worksOut_128 (by decide) rfl ?_
        refine wp_isub dX8_worksOut_129 rfl ?_
        rw [nI_pred]
        refine wp_iload dX8_worksOut_130 rfl rfl ?_
        refine wp_aload_n dX8_worksOut_132 rfl rfl ?_
        refine wn_getR dX8_worksOut_133 fRX8_42 o40 rfl rfl rfl ?_
        refine wp_iload_n dX8_worksOut_136 rfl rfl ?_
        refine wp_iconst (v := 1) dX8_worksOut_137 (by decide) rfl ?_
        refine wp_isub dX8_worksOut_138 rfl ?_
        rw [nI_pred]
        refine wn_iald dX8_worksOut_139 (o41 10 rfl) rfl (nIx rfl (by omega)) (by show _ < 96; omega) rfl ?_
        rw [hS.2.1]
        refine wp_aload_n dX8_worksOut_140 rfl rfl ?_
        refine wn_getR dX8_worksOut_141 fRX8_42 o40 rfl rfl rfl ?_
        refine wp_iload_n dX8_worksOut_144 rfl rfl ?_
        refine wn_iald dX8_worksOut_145 (o41 10 rfl) rfl (nIx rfl (by omega)) (by show _ < 96; omega) rfl ?_
        rw [show s1.1 (41, 10, 0) (r.length + 1) = b from hS.1]
        refine wn_callS3d dX8_worksOut_146 rRX8_241 (Nat.le_of_ble_eq_true rfl) rfl rfl rfl (Nat.le_of_ble_eq_true rfl) rfl (c8_two) ?_
        refine wn_iast dX8_worksOut_149 (o41 10 rfl) rfl (nIx rfl (by omega)) (by show _ < 96; omega) rfl ?_
        refine wp_iinc (l' := [_, _, _, _, some _, _]) (v := 1) dX8_worksOut_150 rfl (by decide) rfl rfl ?_
        refine wp_goto (t := 21) dX8_worksOut_153 rfl ?_
        rw [nI_1]
        exact ih hl (_ :: r) (sI s1 (41, 10, 0) r.length _) _ (hF.pt (by decide)) (by rw [sI_row]; exact SP_push hS.2.2) hW.2.2 (by have : r.length + 1 + 1 ≤ 96 := hL; show _ + 1 ≤ 96; omega)
      · rw [if_pos h90] at hW ⊢
        simp only [Bool.and_eq_true, decide_eq_true_eq] at hW
        obtain ⟨a, r, rfl⟩ : ∃ a r, stk = a :: r := by cases stk with | nil => exact absurd hW.1 (by decide) | cons a r => exact ⟨a, r, rfl⟩
        have hL : r.length + 1 ≤ 96 := hL
        rw [show nI (a :: r).length = nI (r.length + 1) from rfl]
        refine wp_aload_n dX8_worksOut_93 rfl rfl ?_
        refine wn_getR dX8_worksOut_94 fRX8_42 o40 rfl rfl rfl ?_
        refine wp_iload_n dX8_worksOut_97 rfl rfl ?_
        refine wp_iconst (v := 1) dX8_worksOut_98 (by decide) rfl ?_
        refine wp_isub dX8_worksOut_99 rfl ?_
        rw [nI_pred]
        refine wp_aload_n dX8_worksOut_100 rfl rfl ?_
        refine wn_getR dX8_worksOut_101 fRX8_42 o40 rfl rfl rfl ?_
        refine wp_iload_n dX8_worksOut_104 rfl rfl ?_
        refine wp_iconst (v := 1) dX8_worksOut_105 (by decide) rfl ?_
        refine wp_isub dX8_worksOut_106 rfl ?_
        rw [nI_pred]
        refine wn_iald dX8_worksOut_107 (o41 10 rfl) rfl (nIx rfl (by omega)) (by show _ < 96; omega) rfl ?_
        rw [hS.1]
        refine wp_if_ne (t := 115) dX8_worksOut_108 rfl rfl (fun h108 => ?_) (fun h108 => ?_)
        · rw [show (if (a :: r).headD 0 = 0 then (1 : Int32) else 0) = 0 from if_neg h108]
          refine wp_iconst (v := 0) dX8_worksOut_115 (by decide) rfl ?_
          refine wn_iast dX8_worksOut_116 (o41 10 rfl) rfl (nIx rfl (by omega)) (by show _ < 96; omega) rfl ?_
          refine wp_goto (t := 150) dX8_worksOut_117 rfl ?_
          refine wp_iinc (l' := [_, _, _, _, some _, _]) (v := 1) dX8_worksOut_150 rfl (by decide) rfl rfl ?_
          refine wp_goto (t := 21) dX8_worksOut_153 rfl ?_
          rw [nI_1]
          exact ih hl (_ :: r) (sI s1 (41, 10, 0) r.length _) _ (hF.pt (by decide)) (by rw [sI_row]; exact SP_push hS.2) hW.2 hL
        · rw [show (if (a :: r).headD 0 = 0 then (1 : Int32) else 0) = 1 from if_pos h108]
          refine wp_iconst (v := 1) dX8_worksOut_111 (by decide) rfl ?_
          refine wp_goto (t := 116) dX8_worksOut_112 rfl ?_
          refine wn_iast dX8_worksOut_116 (o41 10 rfl) rfl (nIx rfl (by omega)) (by show _ < 96; omega) rfl ?_
          refine wp_goto (t := 150) dX8_worksOut_117 rfl ?_
          refine wp_iinc (l' := [_, _, _, _, some _, _]) (v := 1) dX8_worksOut_150 rfl (by decide) rfl rfl ?_
          refine wp_goto (t := 21) dX8_worksOut_153 rfl ?_
          rw [nI_1]
          exact ih hl (_ :: r) (sI s1 (41, 10, 0) r.length _) _ (hF.pt (by decide)) (by rw [sI_row]; exact SP_push hS.2) hW.2 hL
    · rw [if_pos (Int32.not_lt.mp h47)] at hW ⊢
      simp only [Bool.and_eq_true, decide_eq_true_eq] at hW
      refine wp_aload_n dX8_worksOut_50 rfl rfl ?_
      refine wn_getR dX8_worksOut_51 fRX8_42 o40 rfl rfl rfl ?_
      refine wp_iload_n dX8_worksOut_54 rfl rfl ?_
      refine wp_iload dX8_worksOut_55 rfl rfl ?_
      refine wp_sipush (v := 10000) dX8_worksOut_57 (by decide) rfl ?_
      refine wp_icmp_ge (t := 68) dX8_worksOut_60 rfl rfl (fun h60 => ?_) (fun h60 => ?_)
      · rw [if_neg (Int32.not_lt.mpr h60)]
        refine wp_aload_n dX8_worksOut_68 rfl rfl ?_
        refine wn_getR dX8_worksOut_69 fRX8_45 o40 rfl rfl rfl ?_
        refine wp_iload dX8_worksOut_72 rfl rfl ?_
        refine wp_sipush (v := 10000) dX8_worksOut_74 (by decide) rfl ?_
        refine wp_isub dX8_worksOut_77 rfl ?_
        refine wn_iald dX8_worksOut_78 (o41 11 rfl) rfl ⟨(subI10 h60 hW.2.1).1, rfl⟩ (subI10 h60 hW.2.1).2 rfl ?_
        rw [show s1.1 (41, 11, 0) = s.1 (41, 11, 0) from hF.1 _ (by decide)]
        refine wn_iast dX8_worksOut_79 (o41 10 rfl) rfl (nIx rfl (by omega)) (by show _ < 96; omega) rfl ?_
        refine wp_iinc (l' := [_, _, some _, _, _, _]) (v := 1) dX8_worksOut_80 rfl (by decide) rfl rfl ?_
        refine wp_goto (t := 150) dX8_worksOut_83 rfl ?_
        refine wp_iinc (l' := [_, _, _, _, some _, _]) (v := 1) dX8_worksOut_150 rfl (by decide) rfl rfl ?_
        refine wp_goto (t := 21) dX8_worksOut_153 rfl ?_
        rw [nI_1, nI_1]
        exact ih hl (_ :: stk) (sI s1 (41, 10, 0) stk.length _) _ (hF.pt (by decide)) (by rw [sI_row]; exact SP_push hS) hW.2.2 (by show _ + 1 ≤ 96; omega)
      · rw [if_pos (Int32.not_le.mp h60)]
        refine wp_iload dX8_worksOut_63 rfl rfl ?_
        refine wp_goto (t := 79) dX8_worksOut_65 rfl ?_
        refine wn_iast dX8_worksOut_79 (o41 10 rfl) rfl (nIx rfl (by omega)) (by show _ < 96; omega) rfl ?_
        refine wp_iinc (l' := [_, _, some _, _, _, _]) (v := 1) dX8_worksOut_80 rfl (by decide) rfl rfl ?_
        refine wp_goto (t := 150) dX8_worksOut_83 rfl ?_
        refine wp_iinc (l' := [_, _, _, _, some _, _]) (v := 1) dX8_worksOut_150 rfl (by decide) rfl rfl ?_
        refine wp_goto (t := 21) dX8_worksOut_153 rfl ?_
        rw [nI_1, nI_1]
        exact ih hl (_ :: stk) (sI s1 (41, 10, 0) stk.length _) _ (hF.pt (by decide)) (by rw [sI_row]; exact SP_push hS) hW.2.2 (by show _ + 1 ≤ 96; omega)
theorem c8_works {t n : Nat} (ht : t < 14) (hn : n ≤ 96) (hn2 : rm (s.1 (41, 0, 0) (105 + 2 * t)) 1000 = nI n) (hW : wfd (cod (s.1 (41, 0, 0)) t n) 0 = true) : Ca (d + 1) MX8_worksOut [vR 40 0 0, vI (nI t)] (hN s) (Pv fun x t1 => x = (evl (fun i => s.1 (41, 11, 0) i.toNatClampNeg) (cod (s.1 (41, 0, 0)) t n) []).headD 0 ∧ Fr [(41, 10, 0)] s t1) := by
  change Wp _ _ 0 [some _, some _, none, none, none, none] [] _ _
  refine wp_iconst (v := 0) dX8_worksOut_0 (by decide) rfl ?_
  refine wp_istore_n (l' := [_, _, some _, _, _, _]) dX8_worksOut_1 rfl rfl ?_
  refine wp_aload_n dX8_worksOut_2 rfl rfl ?_
  refine wn_getR dX8_worksOut_3 fRX8_9 o40 rfl rfl rfl ?_
  refine wp_bipush (v := 105) dX8_worksOut_6 (by decide) rfl ?_
  refine wp_iconst (v := 2) dX8_worksOut_8 (by decide) rfl ?_
  refine wp_iload_n dX8_worksOut_9 rfl rfl ?_
  refine wp_imul dX8_worksOut_10 rfl ?_
  refine wp_iadd dX8_worksOut_11 rfl ?_
  refine wn_iald dX8_worksOut_12 (o41 0 rfl) rfl (nIx ix_t (by omega)) (by show _ < 1477; omega) rfl ?_
  refine wp_sipush (v := 1000) dX8_worksOut_13 (by decide) rfl ?_
  refine wp_irem dX8_worksOut_16 (by decide) rfl ?_
  rw [show ∀ x : Int32, x - x / 1000 * 1000 = rm x 1000 from fun _ => rfl, hn2]
  refine wp_istore_n (l' := [_, _, _, some _, _, _]) dX8_worksOut_17 rfl rfl ?_
  refine wp_iconst (v := 0) dX8_worksOut_18 (by decide) rfl ?_
  refine wp_istore (l' := [_, _, _, _, some _, _]) dX8_worksOut_19 rfl rfl ?_
  exact l8_works ht hn 0 (Nat.zero_le _) [] s _ Fr.rf trivial hW (Nat.zero_le _)
end
