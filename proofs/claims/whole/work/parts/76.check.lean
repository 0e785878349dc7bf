/-! THE PURE PART, 57: check -/
section
variable {d i j : Nat}
def ckG (te : Fl) (T c D : Nat) : Nat → Nat → Fl → Int32
  | 0, _, _ => if 2 * D < T then nI (1 + 2 * D) else 0
  | m + 1, i, f => if ¬ (2 * i < T ∧ te (2 * i) = nI (mny (wek f) 12)) then nI (1 + 2 * i) else if ¬ (2 * i + 1 < T ∧ te (2 * i + 1) = rsm (wek f) c) then nI (2 + 2 * i) else ckG te T c D m (i + 1) (wek f)
def ckA (te : Fl) (T : Nat) (h : Int32) (f : Fl) (c wk : Nat) (x : Int32) : Int32 := if 1 ≤ x ∧ x ≤ 30 then (if h = 0 then -1000000002 else ckG te T c (min x.toNatClampNeg (9999 - wk)) (min x.toNatClampNeg (9999 - wk)) 0 f) else -1000000001
theorem ckA_y {te : Fl} {T : Nat} {h : Int32} {f : Fl} {c wk n : Nat} (hx : 1 ≤ nI n ∧ nI n ≤ 30) (hn : n ≤ 30) (hh : ¬ h = 0) : ckA te T h f c wk (nI n) = ckG te T c (min n (9999 - wk)) (min n (9999 - wk)) 0 f := by
  unfold ckA
  rw [if_pos hx, if_neg hh, nI_clamp (by omega)]
theorem ckA_n {te : Fl} {T : Nat} {h : Int32} {f : Fl} {c wk n : Nat} (hx : 1 ≤ nI n ∧ nI n ≤ 30) (hh : h = 0) : ckA te T h f c wk (nI n) = -1000000002 := by
  unfold ckA
  rw [if_pos hx, if_pos hh]
theorem m2 {k : Nat} : (2 : Int32) * nI k = nI (2 * k) := by rw [show (2 : Int32) = nI 2 from rfl, pk_mul]
theorem p1 {k : Nat} : (1 : Int32) + nI k = nI (1 + k) := by rw [show (1 : Int32) = nI 1 from rfl, nI_add]
theorem p2 {k : Nat} : (2 : Int32) + nI k = nI (2 + k) := by rw [show (2 : Int32) = nI 2 from rfl, nI_add]
theorem l8_ckX {s s1 : Sn} {x : Int32} {T D R k : Nat} (hA : ∀ q, 1477 ≤ q → s1.1 (41, 2, 0) q = 0) (hZ : ∀ q, 1477 ≤ q → s1.1 (41, 0, 0) q = 0) (hF : Fr XW s s1) (hD : D ≤ 30) (hT : T ≤ 60) (hR : R < 2 * D) (hk : k ≤ 30) (hRk : R ≠ 2 * k) : Wp (d + 5) MX8_check 79 [some (vR 40 0 0), some (vI x), some (vI (nI T)), some (vI (nI (2 * D))), some (vI (nI R)), some (vI (nI k))] [] (hN s1) (Pv fun z t => z = nI (1 + R) ∧ t.1 (41, 0, 0) = s1.1 (41, 2, 0) ∧ Fr XW s t) := by
  refine wp_iconst (v := 2) dX8_check_79 (by decide) rfl ?_
  refine wp_iload dX8_check_80 rfl rfl ?_
  refine wp_imul dX8_check_82 rfl ?_
  rw [m2]
  refine wp_iload_n dX8_check_83 rfl rfl ?_
  refine wp_icmp_ge (t := 179) dX8_check_84 rfl rfl (fun h84 => ?_) (fun h84 => ?_)
  · refine wp_aload_n dX8_check_179 rfl rfl ?_
    refine wn_getR dX8_check_180 fRX8_16 o40 rfl rfl rfl ?_
    refine wp_aload_n dX8_check_183 rfl rfl ?_
    refine wn_getR dX8_check_184 fRX8_9 o40 rfl rfl rfl ?_
    refine wn_callS2n dX8_check_187 rRX8_258 (Nat.le_of_ble_eq_true rfl) rfl rfl (Nat.le_of_ble_eq_true rfl) rfl (c8_copyR (a := 2) (b := 0) (fun _ => o41 2 rfl) (fun _ => o41 0 rfl) rfl rfl (by decide) (fun q hq => (hA q hq).trans (hZ q hq).symm)) (fun s187 hq187 => ?_)
    obtain ⟨e187, hF187⟩ := hq187
    refine wp_iload dX8_check_190 rfl rfl ?_
    refine wp_iload_n dX8_check_192 rfl rfl ?_
    refine wp_icmp_ne (t := 206) dX8_check_193 rfl rfl (fun h193 => ?_) (fun h193 => ?_)
    · refine wp_iconst (v := 1) dX8_check_206 (by decide) rfl ?_
      refine wp_iload dX8_check_207 rfl rfl ?_
      refine wp_iadd dX8_check_209 rfl ?_
      refine wp_iret dX8_check_210 rfl rfl ?_
      refine ⟨_, _, rfl, rfl, p1, e187, hF.tr (hF187.wd X0_W)⟩
    · refine wp_iload dX8_check_196 rfl rfl ?_
      refine wp_iload_n dX8_check_198 rfl rfl ?_
      refine wp_icmp_ne (t := 206) dX8_check_199 rfl rfl (fun h199 => ?_) (fun h199 => absurd ((nI_eq (by omega) (by omega)).mp h199) (by omega))
      refine wp_iconst (v := 1) dX8_check_206 (by decide) rfl ?_
      refine wp_iload dX8_check_207 rfl rfl ?_
      refine wp_iadd dX8_check_209 rfl ?_
      refine wp_iret dX8_check_210 rfl rfl ?_
      refine ⟨_, _, rfl, rfl, p1, e187, hF.tr (hF187.wd X0_W)⟩
  · refine wp_iload dX8_check_87 rfl rfl ?_
    refine wp_iconst (v := 2) dX8_check_89 (by decide) rfl ?_
    refine wp_iload dX8_check_90 rfl rfl ?_
    refine wp_imul dX8_check_92 rfl ?_
    rw [m2]
    refine wp_icmp_ne (t := 179) dX8_check_93 rfl rfl (fun h93 => ?_) (fun h93 => absurd ((nI_eq (by omega) (by omega)).mp h93) hRk)
    refine wp_aload_n dX8_check_179 rfl rfl ?_
    refine wn_getR dX8_check_180 fRX8_16 o40 rfl rfl rfl ?_
    refine wp_aload_n dX8_check_183 rfl rfl ?_
    refine wn_getR dX8_check_184 fRX8_9 o40 rfl rfl rfl ?_
    refine wn_callS2n dX8_check_187 rRX8_258 (Nat.le_of_ble_eq_true rfl) rfl rfl (Nat.le_of_ble_eq_true rfl) rfl (c8_copyR (a := 2) (b := 0) (fun _ => o41 2 rfl) (fun _ => o41 0 rfl) rfl rfl (by decide) (fun q hq => (hA q hq).trans (hZ q hq).symm)) (fun s187 hq187 => ?_)
    obtain ⟨e187, hF187⟩ := hq187
    refine wp_iload dX8_check_190 rfl rfl ?_
    refine wp_iload_n dX8_check_192 rfl rfl ?_
    refine wp_icmp_ne (t := 206) dX8_check_193 rfl rfl (fun h193 => ?_) (fun h193 => ?_)
    · refine wp_iconst (v := 1) dX8_check_206 (by decide) rfl ?_
      refine wp_iload dX8_check_207 rfl rfl ?_
      refine wp_iadd dX8_check_209 rfl ?_
      refine wp_iret dX8_check_210 rfl rfl ?_
      refine ⟨_, _, rfl, rfl, p1, e187, hF.tr (hF187.wd X0_W)⟩
    · refine wp_iload dX8_check_196 rfl rfl ?_
      refine wp_iload_n dX8_check_198 rfl rfl ?_
      refine wp_icmp_ne (t := 206) dX8_check_199 rfl rfl (fun h199 => ?_) (fun h199 => absurd ((nI_eq (by omega) (by omega)).mp h199) (by omega))
      refine wp_iconst (v := 1) dX8_check_206 (by decide) rfl ?_
      refine wp_iload dX8_check_207 rfl rfl ?_
      refine wp_iadd dX8_check_209 rfl ?_
      refine wp_iret dX8_check_210 rfl rfl ?_
      refine ⟨_, _, rfl, rfl, p1, e187, hF.tr (hF187.wd X0_W)⟩
theorem l8_ck {s : Sn} {f : Fl} {x : Int32} {T D c c8 : Nat} (hA : ∀ q, 1477 ≤ q → s.1 (41, 2, 0) q = 0) (hW : Wq f c c8) (hf : ∀ q, 1477 ≤ q → f q = 0) (hD : D ≤ 30) (hT : T ≤ 60) : ∀ i, i ≤ D → ∀ s1 : Sn, s1.1 (41, 0, 0) = weks i f → 2 * i ≤ T → Fr XW s s1 → Wp (d + 5) MX8_check 79 [some (vR 40 0 0), some (vI x), some (vI (nI T)), some (vI (nI (2 * D))), some (vI (nI (2 * i))), some (vI (nI i))] [] (hN s1) (Pv fun z t => z = ckG (s.1 (41, 20, 0)) T c D (D - i) i (weks i f) ∧ t.1 (41, 0, 0) = s.1 (41, 2, 0) ∧ Fr XW s t) := by
  refine ind_up (fun i hi ih => ?_)
  intro s1 e1 hiT hF
  have hWi := Wq.weks i _ hW
  have hW1 := Wq.wek hWi
  have e2 := hF.1 (41, 2, 0) (by decide)
  have hZ1 : ∀ q, 1477 ≤ q → s1.1 (41, 0, 0) q = 0 := fun q hq => by rw [e1, weks_hi (by omega) i _ hW]; exact hf q hq
  have hA1 : ∀ q, 1477 ≤ q → s1.1 (41, 2, 0) q = 0 := fun q hq => by rw [e2]; exact hA q hq
  refine wp_iconst (v := 2) dX8_check_79 (by decide) rfl ?_
  refine wp_iload dX8_check_80 rfl rfl ?_
  refine wp_imul dX8_check_82 rfl ?_
  rw [m2]
  refine wp_iload_n dX8_check_83 rfl rfl ?_
  refine wp_icmp_ge (t := 179) dX8_check_84 rfl rfl (fun h84 => ?_) (fun h84 => ?_)
  · have hi2 : i = D := by have := (nI_leI (by omega) (by omega)).mp h84; omega
    subst hi2
    refine wp_aload_n dX8_check_179 rfl rfl ?_
    refine wn_getR dX8_check_180 fRX8_16 o40 rfl rfl rfl ?_
    refine wp_aload_n dX8_check_183 rfl rfl ?_
    refine wn_getR dX8_check_184 fRX8_9 o40 rfl rfl rfl ?_
    refine wn_callS2n dX8_check_187 rRX8_258 (Nat.le_of_ble_eq_true rfl) rfl rfl (Nat.le_of_ble_eq_true rfl) rfl (c8_copyR (a := 2) (b := 0) (fun _ => o41 2 rfl) (fun _ => o41 0 rfl) rfl rfl (by decide) (fun q hq => (hA1 q hq).trans (hZ1 q hq).symm)) (fun s187 hq187 => ?_)
    obtain ⟨e187, hF187⟩ := hq187
    refine wp_iload dX8_check_190 rfl rfl ?_
    refine wp_iload_n dX8_check_192 rfl rfl ?_
    refine wp_icmp_ne (t := 206) dX8_check_193 rfl rfl (fun h193 => ?_) (fun h193 => ?_)
    · refine wp_iconst (v := 1) dX8_check_206 (by decide) rfl ?_
      refine wp_iload dX8_check_207 rfl rfl ?_
      refine wp_iadd dX8_check_209 rfl ?_
      refine wp_iret dX8_check_210 rfl rfl ?_
      refine ⟨_, _, rfl, rfl, ?_, e187.trans e2, hF.tr (hF187.wd X0_W)⟩
      rw [Nat.sub_self, ckG]
      rw [p1, if_pos (by have : ¬ 2 * i = T := fun z => h193 (by rw [z]); omega)]
    · refine wp_iload dX8_check_196 rfl rfl ?_
      refine wp_iload_n dX8_check_198 rfl rfl ?_
      refine wp_icmp_ne (t := 206) dX8_check_199 rfl rfl (fun h199 => absurd rfl h199) (fun h199 => ?_)
      refine wp_iconst (v := 0) dX8_check_202 (by decide) rfl ?_
      refine wp_goto (t := 210) dX8_check_203 rfl ?_
      refine wp_iret dX8_check_210 rfl rfl ?_
      refine ⟨_, _, rfl, rfl, ?_, e187.trans e2, hF.tr (hF187.wd X0_W)⟩
      rw [Nat.sub_self, ckG]
      rw [if_neg (by have := (nI_eq (by omega) (by omega)).mp h193; omega)]
  · refine wp_iload dX8_check_87 rfl rfl ?_
    refine wp_iconst (v := 2) dX8_check_89 (by decide) rfl ?_
    refine wp_iload dX8_check_90 rfl rfl ?_
    refine wp_imul dX8_check_92 rfl ?_
    rw [m2]
    refine wp_icmp_ne (t := 179) dX8_check_93 rfl rfl (fun h93 => absurd rfl h93) (fun h93 => ?_)
    have hl : i < D := by have := mt (nI_leI (by omega) (by omega)).mpr h84; omega
    refine wp_aload_n dX8_check_96 rfl rfl ?_
    refine wn_callV0n dX8_check_97 rRX8_143 (rcv_of o40 rfl) (Nat.le_of_ble_eq_true rfl)  (Nat.le_of_ble_eq_true rfl) rfl (c8_week (c := c) (c8 := c8) (by rw [e1]; exact hWi)) (fun s97 hq97 => ?_)
    obtain ⟨e97, hF97a⟩ := hq97
    have hF97 := hF.tr hF97a
    have e297 := hF97.1 (41, 2, 0) (by decide)
    have hZ97 : ∀ q, 1477 ≤ q → s97.1 (41, 0, 0) q = 0 := fun q hq => by rw [e97, e1, wek_hi hWi (by omega), weks_hi (by omega) i _ hW]; exact hf q hq
    have hA97 : ∀ q, 1477 ≤ q → s97.1 (41, 2, 0) q = 0 := fun q hq => by rw [e297]; exact hA q hq
    refine wp_iload dX8_check_100 rfl rfl ?_
    refine wp_iload dX8_check_102 rfl rfl ?_
    refine wp_iload_n dX8_check_104 rfl rfl ?_
    refine wp_icmp_ge (t := 128) dX8_check_105 rfl rfl (fun h105 => ?_) (fun h105 => ?_)
    · refine wp_iconst (v := 0) dX8_check_128 (by decide) rfl ?_
      refine wp_iadd dX8_check_129 rfl ?_
      refine wp_istore (l' := [_, _, _, _, some _, _]) dX8_check_130 rfl rfl ?_
      rw [Int32.add_zero]
      refine wp_iload dX8_check_132 rfl rfl ?_
      refine wp_iload dX8_check_134 rfl rfl ?_
      refine wp_iconst (v := 2) dX8_check_136 (by decide) rfl ?_
      refine wp_iload dX8_check_137 rfl rfl ?_
      refine wp_imul dX8_check_139 rfl ?_
      refine wp_iconst (v := 1) dX8_check_140 (by decide) rfl ?_
      refine wp_iadd dX8_check_141 rfl ?_
      rw [m2, nI_1]
      refine wp_icmp_ne (t := 169) dX8_check_142 rfl rfl (fun h142 => ?_) (fun h142 => absurd ((nI_eq (by omega) (by omega)).mp h142) (by omega))
      refine wp_iconst (v := 0) dX8_check_169 (by decide) rfl ?_
      refine wp_iadd dX8_check_170 rfl ?_
      refine wp_istore (l' := [_, _, _, _, some _, _]) dX8_check_171 rfl rfl ?_
      refine wp_iinc (l' := [_, _, _, _, _, some _]) (v := 1) dX8_check_173 rfl (by decide) rfl rfl ?_
      refine wp_goto (t := 79) dX8_check_176 rfl ?_
      rw [Int32.add_zero, nI_1]
      refine (l8_ckX (d := d) (s := s) (s1 := s97) (R := 2 * i) (k := i + 1) hA97 hZ97 hF97 hD hT (by omega) (by omega) (by omega)).conseq ?_
      rintro v σ ⟨z, t, rfl, rfl, q1, q2, q3⟩
      refine ⟨z, t, rfl, rfl, ?_, q2.trans e297, q3⟩
      rw [q1]
      rw [show D - i = (D - (i + 1)) + 1 by omega, ckG, if_pos (fun z => absurd z.1 (by have := (nI_leI (by omega) (by omega)).mp h105; omega))]
    · refine wp_aload_n dX8_check_108 rfl rfl ?_
      refine wn_getR dX8_check_109 fRX8_72 o40 rfl rfl rfl ?_
      refine wp_iload dX8_check_112 rfl rfl ?_
      refine wn_iald dX8_check_114 (o41 20 rfl) rfl (nIx rfl (by omega)) (show 2 * i < 60 by have := mt (nI_leI (by omega) (by omega)).mpr h105; omega) rfl ?_
      rw [hF97.1 (41, 20, 0) (by decide)]
      refine wp_aload_n dX8_check_115 rfl rfl ?_
      refine wp_bipush (v := 12) dX8_check_116 (by decide) rfl ?_
      refine wn_callV1d dX8_check_118 rRX8_133 (rcv_of o40 rfl) (Nat.le_of_ble_eq_true rfl) rfl (Nat.le_of_ble_eq_true rfl) rfl (c8_manyAt (c := c) hW.2.1 (by rw [e97, e1]; exact hW1.1)) ?_
      rw [e97, e1]
      refine wp_icmp_ne (t := 128) dX8_check_121 rfl rfl (fun h121 => ?_) (fun h121 => ?_)
      · refine wp_iconst (v := 0) dX8_check_128 (by decide) rfl ?_
        refine wp_iadd dX8_check_129 rfl ?_
        refine wp_istore (l' := [_, _, _, _, some _, _]) dX8_check_130 rfl rfl ?_
        rw [Int32.add_zero]
        refine wp_iload dX8_check_132 rfl rfl ?_
        refine wp_iload dX8_check_134 rfl rfl ?_
        refine wp_iconst (v := 2) dX8_check_136 (by decide) rfl ?_
        refine wp_iload dX8_check_137 rfl rfl ?_
        refine wp_imul dX8_check_139 rfl ?_
        refine wp_iconst (v := 1) dX8_check_140 (by decide) rfl ?_
        refine wp_iadd dX8_check_141 rfl ?_
        rw [m2, nI_1]
        refine wp_icmp_ne (t := 169) dX8_check_142 rfl rfl (fun h142 => ?_) (fun h142 => absurd ((nI_eq (by omega) (by omega)).mp h142) (by omega))
        refine wp_iconst (v := 0) dX8_check_169 (by decide) rfl ?_
        refine wp_iadd dX8_check_170 rfl ?_
        refine wp_istore (l' := [_, _, _, _, some _, _]) dX8_check_171 rfl rfl ?_
        refine wp_iinc (l' := [_, _, _, _, _, some _]) (v := 1) dX8_check_173 rfl (by decide) rfl rfl ?_
        refine wp_goto (t := 79) dX8_check_176 rfl ?_
        rw [Int32.add_zero, nI_1]
        refine (l8_ckX (d := d) (s := s) (s1 := s97) (R := 2 * i) (k := i + 1) hA97 hZ97 hF97 hD hT (by omega) (by omega) (by omega)).conseq ?_
        rintro v σ ⟨z, t, rfl, rfl, q1, q2, q3⟩
        refine ⟨z, t, rfl, rfl, ?_, q2.trans e297, q3⟩
        rw [q1]
        rw [show D - i = (D - (i + 1)) + 1 by omega, ckG, if_pos (fun z => h121 z.2)]
      · refine wp_iconst (v := 1) dX8_check_124 (by decide) rfl ?_
        refine wp_goto (t := 129) dX8_check_125 rfl ?_
        refine wp_iadd dX8_check_129 rfl ?_
        refine wp_istore (l' := [_, _, _, _, some _, _]) dX8_check_130 rfl rfl ?_
        rw [nI_1]
        refine wp_iload dX8_check_132 rfl rfl ?_
        refine wp_iload dX8_check_134 rfl rfl ?_
        refine wp_iconst (v := 2) dX8_check_136 (by decide) rfl ?_
        refine wp_iload dX8_check_137 rfl rfl ?_
        refine wp_imul dX8_check_139 rfl ?_
        refine wp_iconst (v := 1) dX8_check_140 (by decide) rfl ?_
        refine wp_iadd dX8_check_141 rfl ?_
        rw [m2, nI_1]
        refine wp_icmp_ne (t := 169) dX8_check_142 rfl rfl (fun h142 => absurd rfl h142) (fun h142 => ?_)
        refine wp_iload dX8_check_145 rfl rfl ?_
        refine wp_iload_n dX8_check_147 rfl rfl ?_
        refine wp_icmp_ge (t := 169) dX8_check_148 rfl rfl (fun h148 => ?_) (fun h148 => ?_)
        · refine wp_iconst (v := 0) dX8_check_169 (by decide) rfl ?_
          refine wp_iadd dX8_check_170 rfl ?_
          refine wp_istore (l' := [_, _, _, _, some _, _]) dX8_check_171 rfl rfl ?_
          refine wp_iinc (l' := [_, _, _, _, _, some _]) (v := 1) dX8_check_173 rfl (by decide) rfl rfl ?_
          refine wp_goto (t := 79) dX8_check_176 rfl ?_
          rw [Int32.add_zero, nI_1]
          refine (l8_ckX (d := d) (s := s) (s1 := s97) (R := 2 * i + 1) (k := i + 1) hA97 hZ97 hF97 hD hT (by omega) (by omega) (by omega)).conseq ?_
          rintro v σ ⟨z, t, rfl, rfl, q1, q2, q3⟩
          refine ⟨z, t, rfl, rfl, ?_, q2.trans e297, q3⟩
          rw [q1]
          rw [show D - i = (D - (i + 1)) + 1 by omega, ckG, if_neg (fun z => z ⟨by have := mt (nI_leI (by omega) (by omega)).mpr h105; omega, h121⟩), if_pos (fun z => absurd z.1 (by have := (nI_leI (by omega) (by omega)).mp h148; omega))]
          congr 1; omega
        · refine wp_aload_n dX8_check_151 rfl rfl ?_
          refine wn_getR dX8_check_152 fRX8_72 o40 rfl rfl rfl ?_
          refine wp_iload dX8_check_155 rfl rfl ?_
          refine wn_iald dX8_check_157 (o41 20 rfl) rfl (nIx rfl (by omega)) (show 2 * i + 1 < 60 by have := mt (nI_leI (by omega) (by omega)).mpr h148; omega) rfl ?_
          rw [hF97.1 (41, 20, 0) (by decide)]
          refine wp_aload_n dX8_check_158 rfl rfl ?_
          refine wn_callV0d dX8_check_159 rRX8_262 (rcv_of o40 rfl) (Nat.le_of_ble_eq_true rfl)  (Nat.le_of_ble_eq_true rfl) rfl (c8_allReaches (c := c) hW.2.1 (by rw [e97, e1]; exact hW1.1)) ?_
          rw [e97, e1]
          refine wp_icmp_ne (t := 169) dX8_check_162 rfl rfl (fun h162 => ?_) (fun h162 => ?_)
          · refine wp_iconst (v := 0) dX8_check_169 (by decide) rfl ?_
            refine wp_iadd dX8_check_170 rfl ?_
            refine wp_istore (l' := [_, _, _, _, some _, _]) dX8_check_171 rfl rfl ?_
            refine wp_iinc (l' := [_, _, _, _, _, some _]) (v := 1) dX8_check_173 rfl (by decide) rfl rfl ?_
            refine wp_goto (t := 79) dX8_check_176 rfl ?_
            rw [Int32.add_zero, nI_1]
            refine (l8_ckX (d := d) (s := s) (s1 := s97) (R := 2 * i + 1) (k := i + 1) hA97 hZ97 hF97 hD hT (by omega) (by omega) (by omega)).conseq ?_
            rintro v σ ⟨z, t, rfl, rfl, q1, q2, q3⟩
            refine ⟨z, t, rfl, rfl, ?_, q2.trans e297, q3⟩
            rw [q1]
            rw [show D - i = (D - (i + 1)) + 1 by omega, ckG, if_neg (fun z => z ⟨by have := mt (nI_leI (by omega) (by omega)).mpr h105; omega, h121⟩), if_pos (fun z => h162 z.2)]
            congr 1; omega
          · refine wp_iconst (v := 1) dX8_check_165 (by decide) rfl ?_
            refine wp_goto (t := 170) dX8_check_166 rfl ?_
            refine wp_iadd dX8_check_170 rfl ?_
            refine wp_istore (l' := [_, _, _, _, some _, _]) dX8_check_171 rfl rfl ?_
            refine wp_iinc (l' := [_, _, _, _, _, some _]) (v := 1) dX8_check_173 rfl (by decide) rfl rfl ?_
            refine wp_goto (t := 79) dX8_check_176 rfl ?_
            rw [nI_1, nI_1, show 2 * i + 1 + 1 = 2 * (i + 1) by omega]
            refine (ih (by omega) s97 (by rw [e97, e1, weks_s]) (by have := mt (nI_leI (by omega) (by omega)).mpr h148; omega) hF97).conseq ?_
            rintro v σ ⟨z, t, rfl, rfl, q1, q2, q3⟩
            refine ⟨z, t, rfl, rfl, ?_, q2, q3⟩
            rw [q1]
            rw [show D - i = (D - (i + 1)) + 1 by omega, ckG, if_neg (fun z => z ⟨by have := mt (nI_leI (by omega) (by omega)).mpr h105; omega, h121⟩), if_neg (fun z => z ⟨by have := mt (nI_leI (by omega) (by omega)).mpr h148; omega, h162⟩), weks_s]
theorem XW_C : ∀ r, r ∈ XW → r ∈ [((40, 0, 0) : Rf), (41, 0, 0), (41, 2, 0), (41, 10, 0), (41, 11, 0)] := by
  intro r h
  simp only [XW, List.mem_cons, List.not_mem_nil, or_false] at h ⊢
  rcases h with h | h | h
  · exact Or.inr (Or.inl h)
  · exact Or.inr (Or.inr (Or.inr (Or.inl h)))
  · exact Or.inr (Or.inr (Or.inr (Or.inr h)))
theorem c8_check {s : Sn} {T c c8 wk : Nat} {x : Int32} (hz : HZ s) (hT : T ≤ 60) (h32 : s.1 (40, 0, 0) 32 = nI T) (hW : Wq (s.1 (41, 1, 0)) c c8) (h2 : s.1 (41, 1, 0) 2 = nI wk) (hwk : wk ≤ 9999) : Ca (d + 5) MX8_check [vR 40 0 0, vI x] (hN s) (Pv fun z t => z = ckA (s.1 (41, 20, 0)) T (s.1 (40, 0, 0) 3) (s.1 (41, 1, 0)) c wk x ∧ t.1 (41, 0, 0) = (s.1 (41, 0, 0)) ∧ t.1 (40, 0, 0) = upd (s.1 (40, 0, 0)) 32 0 ∧ (∀ q, 1477 ≤ q → t.1 (41, 2, 0) q = 0) ∧ Fr [(40, 0, 0), (41, 0, 0), (41, 2, 0), (41, 10, 0), (41, 11, 0)] s t) := by
  change Wp _ _ 0 [some _, some _, none, none, none, none] [] _ _
  refine wp_aload_n dX8_check_0 rfl rfl ?_
  refine wn_getI dX8_check_1 fRX8_251 o40 rfl rfl ?_
  rw [h32]
  refine wp_istore_n (l' := [_, _, some _, _, _, _]) dX8_check_4 rfl rfl ?_
  refine wp_aload_n dX8_check_5 rfl rfl ?_
  refine wp_iconst (v := 0) dX8_check_6 (by decide) rfl ?_
  refine wn_putI dX8_check_7 fRX8_251 o40 rfl rfl rfl ?_
  refine wp_iload_n dX8_check_10 rfl rfl ?_
  refine wp_iconst (v := 1) dX8_check_11 (by decide) rfl ?_
  refine wp_bipush (v := 30) dX8_check_12 (by decide) rfl ?_
  refine wn_callS3d dX8_check_14 rRX8_75 (Nat.le_of_ble_eq_true rfl) rfl rfl rfl (Nat.le_of_ble_eq_true rfl) rfl (c8_in) ?_
  refine wp_if_ne_b (t := 23) dX8_check_17 rfl rfl (fun h17 => ?_) (fun h17 => ?_)
  · obtain ⟨n, hn1, hn30, rfl⟩ := one_nat (b := 30) (by omega) h17
    have h24 : (sI s (40, 0, 0) 32 0).1 (40, 0, 0) 3 = s.1 (40, 0, 0) 3 := sI_nk (by decide)
    refine wp_aload_n dX8_check_23 rfl rfl ?_
    refine wn_getI dX8_check_24 fRX8_254 o40 rfl rfl ?_
    refine wp_if_ne (t := 33) dX8_check_27 rfl rfl (fun h27 => ?_) (fun h27 => ?_)
    · refine wp_aload_n dX8_check_33 rfl rfl ?_
      refine wn_getR dX8_check_34 fRX8_9 o40 rfl rfl rfl ?_
      refine wp_aload_n dX8_check_37 rfl rfl ?_
      refine wn_getR dX8_check_38 fRX8_16 o40 rfl rfl rfl ?_
      refine wn_callS2n dX8_check_41 rRX8_258 (Nat.le_of_ble_eq_true rfl) rfl rfl (Nat.le_of_ble_eq_true rfl) rfl (c8_copyR (a := 0) (b := 2) (fun _ => o41 0 rfl) (fun _ => o41 2 rfl) rfl rfl (by decide) (fun q hq => by rw [sI_nr (by decide), sI_nr (by decide)]; exact (hz q hq).1.trans (hz q hq).2.2.symm)) (fun s41 hq41 => ?_)
      obtain ⟨e41, hF41⟩ := hq41
      rw [sI_nr (by decide)] at e41
      have g41 : ∀ n, n ≠ 2 → s41.1 (41, n, 0) = s.1 (41, n, 0) := fun n hn => by rw [hF41.1 _ (fun z => hn (congrArg (fun r : Rf => r.2.1) (List.mem_singleton.mp z))), sI_nr (fun z => absurd (congrArg Prod.fst z) (by show ¬ 41 = 40; decide))]
      refine wp_aload_n dX8_check_44 rfl rfl ?_
      refine wn_getR dX8_check_45 fRX8_13 o40 rfl rfl rfl ?_
      refine wp_aload_n dX8_check_48 rfl rfl ?_
      refine wn_getR dX8_check_49 fRX8_9 o40 rfl rfl rfl ?_
      refine wn_callS2n dX8_check_52 rRX8_258 (Nat.le_of_ble_eq_true rfl) rfl rfl (Nat.le_of_ble_eq_true rfl) rfl (c8_copyR (a := 1) (b := 0) (fun _ => o41 1 rfl) (fun _ => o41 0 rfl) rfl rfl (by decide) (fun q hq => by rw [g41 1 (by decide), g41 0 (by decide)]; exact (hz q hq).2.1.trans (hz q hq).1.symm)) (fun s52 hq52 => ?_)
      obtain ⟨e52, hF52⟩ := hq52
      rw [g41 1 (by decide)] at e52
      have g52 : s52.1 (41, 2, 0) = (s.1 (41, 0, 0)) := by rw [hF52.1 _ (by decide), e41]
      have k52 : s52.1 (41, 20, 0) = s.1 (41, 20, 0) := by rw [hF52.1 _ (by decide), g41 20 (by decide)]
      have f52 : Fr [(40, 0, 0), (41, 0, 0), (41, 2, 0), (41, 10, 0), (41, 11, 0)] s s52 := ((Fr.rf.pt (by decide)).tr (hF41.wd (by decide))).tr (hF52.wd (by decide))
      have m52 : s52.1 (40, 0, 0) = upd (s.1 (40, 0, 0)) 32 0 := by rw [hF52.1 _ (by decide), hF41.1 _ (by decide), sI_row]
      refine wp_iconst (v := 2) dX8_check_55 (by decide) rfl ?_
      refine wp_sipush (v := 9999) dX8_check_56 (by decide) rfl ?_
      refine wp_aload_n dX8_check_59 rfl rfl ?_
      refine wn_getR dX8_check_60 fRX8_9 o40 rfl rfl rfl ?_
      refine wp_iconst (v := 2) dX8_check_63 (by decide) rfl ?_
      refine wn_iald (j := 2) dX8_check_64 (o41 0 rfl) rfl ⟨by decide, by decide⟩ (Nat.le_of_ble_eq_true rfl) rfl ?_
      rw [show s52.1 (41, 0, 0) 2 = nI wk by rw [e52]; exact h2, show (9999 : Int32) = nI 9999 from rfl]
      refine wp_isub dX8_check_65 rfl ?_
      refine wp_iconst (v := 0) dX8_check_66 (by decide) rfl ?_
      refine wp_iload_n dX8_check_67 rfl rfl ?_
      refine wn_callS3d dX8_check_68 rRX8_100 (Nat.le_of_ble_eq_true rfl) rfl rfl rfl (Nat.le_of_ble_eq_true rfl) rfl (c8_within) ?_
      rw [wth_g hwk (by omega) (by omega)]
      refine wp_imul dX8_check_71 rfl ?_
      rw [m2]
      refine wp_istore_n (l' := [_, _, _, some _, _, _]) dX8_check_72 rfl rfl ?_
      refine wp_iconst (v := 0) dX8_check_73 (by decide) rfl ?_
      refine wp_istore (l' := [_, _, _, _, some _, _]) dX8_check_74 rfl rfl ?_
      refine wp_iconst (v := 0) dX8_check_76 (by decide) rfl ?_
      refine wp_istore (l' := [_, _, _, _, _, some _]) dX8_check_77 rfl rfl ?_
      have h := l8_ck (d := d) (s := s52) (f := s.1 (41, 1, 0)) (x := nI n) (T := T) (D := min n (9999 - wk)) (c := c) (c8 := c8) (fun q hq => by rw [g52]; exact (hz q hq).1) hW (fun q hq => (hz q hq).2.1) (by omega) hT 0 (Nat.zero_le _) s52 e52 (by omega) Fr.rf
      refine h.conseq ?_
      rintro v σ ⟨z, t, rfl, rfl, q1, q2, q3⟩
      rw [Nat.sub_zero, k52] at q1
      refine ⟨z, t, rfl, rfl, ?_, q2.trans g52, ?_, fun q hq => by rw [q3.1 _ (by decide), g52]; exact (hz q hq).1, f52.tr (q3.wd XW_C)⟩
      · rw [ckA_y h17 hn30 (by rw [← h24]; exact h27)]; exact q1
      · rw [q3.1 _ (by decide)]; exact m52
    · refine wp_ldc dX8_check_30 kRX8_127 rfl ?_
      refine wp_iret dX8_check_32 rfl rfl ?_
      refine ⟨_, _, rfl, rfl, (ckA_n h17 (by rw [← h24]; exact h27)).symm, ?_, ?_, fun q hq => by rw [sI_nr (by decide)]; exact (hz q hq).2.2, Fr.rf.pt (by decide)⟩
      · rw [sI_nr (by decide)]
      · rw [sI_row]
  · refine wp_ldc dX8_check_20 kRX8_83 rfl ?_
    refine wp_iret dX8_check_22 rfl rfl ?_
    refine ⟨_, _, rfl, rfl, (if_neg h17).symm, ?_, ?_, fun q hq => by rw [sI_nr (by decide)]; exact (hz q hq).2.2, Fr.rf.pt (by decide)⟩
    · rw [sI_nr (by decide)]
    · rw [sI_row]
theorem c7_isWaiting {s : Sn} {p T : Nat} {v : Int32} (hp : p < 60) (hT : T ≤ 60) : Ca d MX7_isWaiting [vR 10 0 0, vI (nI p), vI (nI T), vI v] (hN s) (Pd (bI (p < T ∧ s.1 (27, 0, 0) p = v)) s) := by
  change Wp _ _ 0 [some _, some _, some _, some _] [] _ _
  refine wp_iload_n dX7_isWaiting_0 rfl rfl ?_
  refine wp_iload_n dX7_isWaiting_1 rfl rfl ?_
  refine wp_icmp_ge (t := 25) dX7_isWaiting_2 rfl rfl (fun h2 => ?_) (fun h2 => ?_)
  · refine wp_iconst (v := 0) dX7_isWaiting_25 (by decide) rfl ?_
    refine wp_iret dX7_isWaiting_26 rfl (by decide) ?_
    exact ⟨_, _, rfl, rfl, (bI_f (fun z => absurd z.1 (by have := (nI_leI (by omega) (by omega)).mp h2; omega))).symm, rfl⟩
  · refine wp_iload_n dX7_isWaiting_5 rfl rfl ?_
    refine wp_bipush (v := 60) dX7_isWaiting_6 (by decide) rfl ?_
    refine wp_icmp_ge (t := 25) dX7_isWaiting_8 rfl rfl (fun h8 => ?_) (fun h8 => ?_)
    · refine wp_iconst (v := 0) dX7_isWaiting_25 (by decide) rfl ?_
      refine wp_iret dX7_isWaiting_26 rfl (by decide) ?_
      exact ⟨_, _, rfl, rfl, (bI_f (fun z => absurd hp (by have := (nI_leI (a := 60) (by decide) (by omega)).mp h8; omega))).symm, rfl⟩
    · refine wp_aload_n dX7_isWaiting_11 rfl rfl ?_
      refine wn_getR dX7_isWaiting_12 fRX7_44 o10 rfl rfl rfl ?_
      refine wp_iload_n dX7_isWaiting_15 rfl rfl ?_
      refine wn_iald dX7_isWaiting_16 o27 rfl (nIx rfl (by omega)) (show p < 60 from hp) rfl ?_
      refine wp_iload_n dX7_isWaiting_17 rfl rfl ?_
      refine wp_icmp_ne (t := 25) dX7_isWaiting_18 rfl rfl (fun h18 => ?_) (fun h18 => ?_)
      · refine wp_iconst (v := 0) dX7_isWaiting_25 (by decide) rfl ?_
        refine wp_iret dX7_isWaiting_26 rfl (by decide) ?_
        exact ⟨_, _, rfl, rfl, (bI_f (fun z => h18 z.2)).symm, rfl⟩
      · refine wp_iconst (v := 1) dX7_isWaiting_21 (by decide) rfl ?_
        refine wp_goto (t := 26) dX7_isWaiting_22 rfl ?_
        refine wp_iret dX7_isWaiting_26 rfl (by decide) ?_
        exact ⟨_, _, rfl, rfl, (bI_t ⟨by have := mt (nI_leI (by omega) (by omega)).mpr h2; omega, h18⟩).symm, rfl⟩
theorem l7_ck {s : Sn} {te f : Fl} {x : Int32} {T D c c8 : Nat} (hte : ∀ q, q < 60 → s.1 (27, 0, 0) q = te q) (hW : Wr f c c8) (hD : D ≤ 30) (hT : T ≤ 60) : ∀ i, i ≤ D → ∀ s1 : Sn, RVL s1 2 (weks i f) c c8 → 2 * i ≤ T → FH s s1 → Wp (d + 5) MX7_check 63 [some (vR 10 0 0), some (vI x), some (vI (nI T)), some (vI (nI D)), some (vI (nI i))] [] (hN s1) (Pv fun z t => z = ckG te T c D (D - i) i (weks i f) ∧ FH s t) := by
  refine ind_up (fun i hi ih => ?_)
  intro s1 h1 hiT hF
  have hWi := Wr.weks i _ hW
  have hc := hW.1.2.1
  refine wp_iload dX7_check_63 rfl rfl ?_
  refine wp_iload_n dX7_check_65 rfl rfl ?_
  refine wp_icmp_ge (t := 136) dX7_check_66 rfl rfl (fun h66 => ?_) (fun h66 => ?_)
  · have hi2 : i = D := by have := (nI_leI (by omega) (by omega)).mp h66; omega
    subst hi2
    refine wp_iload_n dX7_check_136 rfl rfl ?_
    refine wp_iconst (v := 2) dX7_check_137 (by decide) rfl ?_
    refine wp_iload_n dX7_check_138 rfl rfl ?_
    refine wp_imul dX7_check_139 rfl ?_
    rw [m2]
    refine wp_icmp_le (t := 151) dX7_check_140 rfl rfl (fun h140 => ?_) (fun h140 => ?_)
    · refine wp_iconst (v := 0) dX7_check_151 (by decide) rfl ?_
      refine wp_iret dX7_check_152 rfl rfl ?_
      refine ⟨_, _, rfl, rfl, ?_, hF⟩
      rw [Nat.sub_self, ckG, if_neg (by have := (nI_leI (by omega) (by omega)).mp h140; omega)]
    · refine wp_iconst (v := 1) dX7_check_143 (by decide) rfl ?_
      refine wp_iconst (v := 2) dX7_check_144 (by decide) rfl ?_
      refine wp_iload_n dX7_check_145 rfl rfl ?_
      refine wp_imul dX7_check_146 rfl ?_
      refine wp_iadd dX7_check_147 rfl ?_
      rw [m2]
      refine wp_goto (t := 152) dX7_check_148 rfl ?_
      refine wp_iret dX7_check_152 rfl rfl ?_
      refine ⟨_, _, rfl, rfl, ?_, hF⟩
      rw [Nat.sub_self, ckG, if_pos (by have := mt (nI_leI (by omega) (by omega)).mpr h140; omega), p1]
  · have hl : i < D := by have := mt (nI_leI (by omega) (by omega)).mpr h66; omega
    refine wp_aload_n dX7_check_69 rfl rfl ?_
    refine wn_getR dX7_check_70 fRX7_19 o10 rfl rfl rfl ?_
    refine wn_callV0n dX7_check_73 rRX7_189 (rcv_of (o11 (by decide)) rfl) (Nat.le_of_ble_eq_true rfl)  (Nat.le_of_ble_eq_true rfl) rfl (c3_weekQ (by decide) (by decide) h1 hWi) (fun s73 hq73 => ?_)
    obtain ⟨h73, hF73⟩ := hq73
    have hF7 := hF.tr hF73
    have k73 : ∀ q, q < 60 → s73.1 (27, 0, 0) q = te q := fun q hq => by rw [hF7.1 (27, 0, 0) (fun z => by rcases z with z | z; exact absurd z (by decide); exact absurd z (by decide))]; exact hte q hq
    refine wp_aload_n dX7_check_76 rfl rfl ?_
    refine wp_iconst (v := 2) dX7_check_77 (by decide) rfl ?_
    refine wp_iload dX7_check_78 rfl rfl ?_
    refine wp_imul dX7_check_80 rfl ?_
    refine wp_iload_n dX7_check_81 rfl rfl ?_
    refine wp_aload_n dX7_check_82 rfl rfl ?_
    refine wn_getR dX7_check_83 fRX7_19 o10 rfl rfl rfl ?_
    refine wn_getI dX7_check_86 fRX7_161 (o11 (by decide)) rfl rfl ?_
    rw [m2, h73.1.2.1]
    refine wn_callV3d dX7_check_89 rRX7_319 (rcv_of o10 rfl) (Nat.le_of_ble_eq_true rfl) rfl rfl rfl (Nat.le_of_ble_eq_true rfl) rfl (c7_isWaiting (p := 2 * i) (by omega) hT) ?_
    rw [k73 _ (by omega)]
    refine wp_if_ne_b (t := 102) dX7_check_92 rfl rfl (fun h92 => ?_) (fun h92 => ?_)
    · refine wp_aload_n dX7_check_102 rfl rfl ?_
      refine wp_iconst (v := 2) dX7_check_103 (by decide) rfl ?_
      refine wp_iload dX7_check_104 rfl rfl ?_
      refine wp_imul dX7_check_106 rfl ?_
      refine wp_iconst (v := 1) dX7_check_107 (by decide) rfl ?_
      refine wp_iadd dX7_check_108 rfl ?_
      refine wp_iload_n dX7_check_109 rfl rfl ?_
      refine wp_aload_n dX7_check_110 rfl rfl ?_
      refine wn_getR dX7_check_111 fRX7_19 o10 rfl rfl rfl ?_
      refine wn_callV0d dX7_check_114 rRX7_322 (rcv_of (o11 (by decide)) rfl) (Nat.le_of_ble_eq_true rfl)  (Nat.le_of_ble_eq_true rfl) rfl (c3_reachesTogether (by decide) h73.1.1 h73.1.2.2.1 hc) ?_
      rw [m2, nI_1]
      refine wn_callV3d dX7_check_117 rRX7_319 (rcv_of o10 rfl) (Nat.le_of_ble_eq_true rfl) rfl rfl rfl (Nat.le_of_ble_eq_true rfl) rfl (c7_isWaiting (p := 2 * i + 1) (by omega) hT) ?_
      rw [k73 _ (by omega)]
      refine wp_if_ne_b (t := 130) dX7_check_120 rfl rfl (fun h120 => ?_) (fun h120 => ?_)
      · refine wp_iinc (l' := [_, _, _, _, some _]) (v := 1) dX7_check_130 rfl (by decide) rfl rfl ?_
        refine wp_goto (t := 63) dX7_check_133 rfl ?_
        rw [nI_1]
        refine (ih (by omega) s73 (by rw [← weks_s]; exact h73) (by have := h120.1; omega) hF7).conseq ?_
        rintro v σ ⟨z, t, rfl, rfl, q1, q2⟩
        refine ⟨z, t, rfl, rfl, ?_, q2⟩
        rw [q1]
        rw [show D - i = (D - (i + 1)) + 1 by omega, ckG, if_neg (fun z => z h92), if_neg (fun z => z h120), weks_s]
      · refine wp_iconst (v := 2) dX7_check_123 (by decide) rfl ?_
        refine wp_iconst (v := 2) dX7_check_124 (by decide) rfl ?_
        refine wp_iload dX7_check_125 rfl rfl ?_
        refine wp_imul dX7_check_127 rfl ?_
        refine wp_iadd dX7_check_128 rfl ?_
        rw [m2]
        refine wp_iret dX7_check_129 rfl rfl ?_
        refine ⟨_, _, rfl, rfl, ?_, hF7⟩
        rw [p2]
        rw [show D - i = (D - (i + 1)) + 1 by omega, ckG, if_neg (fun z => z h92), if_pos h120]
    · refine wp_iconst (v := 1) dX7_check_95 (by decide) rfl ?_
      refine wp_iconst (v := 2) dX7_check_96 (by decide) rfl ?_
      refine wp_iload dX7_check_97 rfl rfl ?_
      refine wp_imul dX7_check_99 rfl ?_
      refine wp_iadd dX7_check_100 rfl ?_
      rw [m2]
      refine wp_iret dX7_check_101 rfl rfl ?_
      refine ⟨_, _, rfl, rfl, ?_, hF7⟩
      rw [p1]
      rw [show D - i = (D - (i + 1)) + 1 by omega, ckG, if_pos h92]
theorem c7_check {s : Sn} {te f : Fl} {T c c8 wk : Nat} {x : Int32} (hT : T ≤ 60) (hE : TE s te T) (h : ¬ s.1 (10, 0, 0) 9 = 0 → RVL s 1 f c c8) (hW : Wr f c c8) (h2 : f 2 = nI wk) (hwk : wk ≤ 9999) : Ca (d + 5) MX7_check [vR 10 0 0, vI x] (hN s) (Pv fun z t => z = ckA te T (s.1 (10, 0, 0) 9) f c wk x ∧ t.1 (10, 0, 0) = upd (s.1 (10, 0, 0)) 8 0 ∧ FW (fun r => XQ r ∨ r = (10, 0, 0)) (fun a => 2 ≤ a) s t) := by
  change Wp _ _ 0 [some _, some _, none, none, none] [] _ _
  refine wp_aload_n dX7_check_0 rfl rfl ?_
  refine wn_getI dX7_check_1 fRX7_48 o10 rfl rfl ?_
  rw [hE.1]
  refine wp_istore_n (l' := [_, _, some _, _, _]) dX7_check_4 rfl rfl ?_
  refine wp_aload_n dX7_check_5 rfl rfl ?_
  refine wp_iconst (v := 0) dX7_check_6 (by decide) rfl ?_
  refine wn_putI dX7_check_7 fRX7_48 o10 rfl rfl rfl ?_
  refine wp_iload_n dX7_check_10 rfl rfl ?_
  refine wp_iconst (v := 1) dX7_check_11 (by decide) rfl ?_
  refine wp_bipush (v := 30) dX7_check_12 (by decide) rfl ?_
  refine wn_callS3d dX7_check_14 rRX7_128 (Nat.le_of_ble_eq_true rfl) rfl rfl rfl (Nat.le_of_ble_eq_true rfl) rfl (c7_within) ?_
  refine wp_if_ne_b (t := 23) dX7_check_17 rfl rfl (fun h17 => ?_) (fun h17 => ?_)
  · obtain ⟨n, hn1, hn30, rfl⟩ := one_nat (b := 30) (by omega) h17
    have h24 : (sI s (10, 0, 0) 8 0).1 (10, 0, 0) 9 = s.1 (10, 0, 0) 9 := sI_nk (by decide)
    refine wp_aload_n dX7_check_23 rfl rfl ?_
    refine wn_getI dX7_check_24 fRX7_52 o10 rfl rfl ?_
    refine wp_if_ne (t := 33) dX7_check_27 rfl rfl (fun h27 => ?_) (fun h27 => ?_)
    · have h0 := h (by rw [← h24]; exact h27)
      have hF0 : FQ (fun r => r = (10, 0, 0)) s (sI s (10, 0, 0) 8 0) := FQ.rf.pt rfl
      have h1 : RVL (sI s (10, 0, 0) 8 0) 1 f c c8 := h0.cg (I := fun _ => False) hF0.fw (fun r z => by rw [z]; exact ⟨by decide, by decide⟩) (fun z => z)
      refine wp_aload_n dX7_check_33 rfl rfl ?_
      refine wn_getR dX7_check_34 fRX7_19 o10 rfl rfl rfl ?_
      refine wp_aload_n dX7_check_37 rfl rfl ?_
      refine wn_getR dX7_check_38 fRX7_16 o10 rfl rfl rfl ?_
      refine wn_callV1n dX7_check_41 rRX7_200 (rcv_of (o11 (by decide)) rfl) (Nat.le_of_ble_eq_true rfl) rfl (Nat.le_of_ble_eq_true rfl) rfl (c3_takes (i := 2) (j := 1) (by decide) (by decide) (by decide) h1 hW.1.2.2.2.1) (fun s41 hq41 => ?_)
      obtain ⟨h41, hF41⟩ := hq41
      have g41 : FH (sI s (10, 0, 0) 8 0) s41 := hF41.wd (XT_Q (by decide)) (fun r z => by omega)
      refine wp_iload_n dX7_check_44 rfl rfl ?_
      refine wp_sipush (v := 9999) dX7_check_45 (by decide) rfl ?_
      refine wp_aload_n dX7_check_48 rfl rfl ?_
      refine wn_getR dX7_check_49 fRX7_16 o10 rfl rfl rfl ?_
      refine wn_getI dX7_check_52 fRX7_164 (o11 (by decide)) rfl rfl ?_
      rw [show s41.1 (11, 1, 0) 14 = nI wk by rw [hF41.1 (11, 1, 0) (fun z => absurd z.1 (by decide))]; exact (h1.1.1.sc 2 (by decide)).trans h2, show (9999 : Int32) = nI 9999 from rfl]
      refine wp_isub dX7_check_55 rfl ?_
      refine wp_min dX7_check_56 rRX7_149 (by omega) (Nat.le_of_ble_eq_true rfl) rfl ?_
      rw [min_g hwk (by omega) (by omega)]
      refine wp_istore_n (l' := [_, _, _, some _, _]) dX7_check_59 rfl rfl ?_
      refine wp_iconst (v := 0) dX7_check_60 (by decide) rfl ?_
      refine wp_istore (l' := [_, _, _, _, some _]) dX7_check_61 rfl rfl ?_
      have hl := l7_ck (d := d) (s := s41) (te := te) (f := f) (x := nI n) (T := T) (D := min n (9999 - wk)) (c := c) (c8 := c8) (fun q hq => by rw [hF41.1 (27, 0, 0) (fun z => absurd z.1 (by decide)), sI_nr (by decide)]; exact hE.2 q hq) hW (by omega) hT 0 (Nat.zero_le _) s41 h41 (by omega) FH.rf
      refine hl.conseq ?_
      rintro v σ ⟨z, t, rfl, rfl, q1, q2⟩
      rw [Nat.sub_zero] at q1
      have q3 := g41.tr q2
      refine ⟨z, t, rfl, rfl, ?_, ?_, (hF0.fw.wd (fun r z => Or.inr z) (fun a z => z)).tr (q3.wd (fun r z => Or.inl z) (fun a z => z))⟩
      · rw [ckA_y h17 hn30 (by rw [← h24]; exact h27)]; exact q1
      · rw [q3.1 (10, 0, 0) (fun z => by rcases z with z | z; exact absurd z (by decide); exact absurd z (by decide)), sI_row]
    · refine wp_ldc dX7_check_30 kRX7_127 rfl ?_
      refine wp_iret dX7_check_32 rfl rfl ?_
      exact ⟨_, _, rfl, rfl, (ckA_n h17 (by rw [← h24]; exact h27)).symm, by rw [sI_row], FW.rf.pt (Or.inr rfl)⟩
  · refine wp_ldc dX7_check_20 kRX7_68 rfl ?_
    refine wp_iret dX7_check_22 rfl rfl ?_
    exact ⟨_, _, rfl, rfl, (if_neg h17).symm, by rw [sI_row], FW.rf.pt (Or.inr rfl)⟩
end
