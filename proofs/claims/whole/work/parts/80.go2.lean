/-! THE PURE PART, 61: the reference's go -/
section
variable {d i j : Nat}
theorem gN_L {tp : Fl} {n f : Nat} (h : ¬ f = n) (h1 : isL tp n f) : gN tp n f = run (pL tp n) (n - f) f := by unfold gN; rw [if_neg h, if_pos h1]
theorem gN_F {tp : Fl} {n f : Nat} (h : ¬ f = n) (h1 : ¬ isL tp n f) (h2 : isF tp n f) : gN tp n f = run (pF tp n) (n - f) f := by unfold gN; rw [if_neg h, if_neg h1, if_pos h2]
theorem gN_S {tp : Fl} {n f : Nat} (h : ¬ f = n) (h1 : ¬ isL tp n f) (h2 : ¬ isF tp n f) : gN tp n f = f + 1 := by unfold gN; rw [if_neg h, if_neg h1, if_neg h2]
theorem go_0 {tp r : Fl} {n k f : Nat} (hf : gF tp n k = f) (h : f = n) : GO tp n k r (upd (upd (upd r 7 (nI f)) 8 (nI f)) 9 0) := by
  refine ⟨⟨?_, ?_, ?_, ?_, ?_⟩, fun q hq => ?_⟩
  · rw [hf, upd_ne (by decide), upd_ne (by decide), upd_eq, gN, if_pos h, h]
  · rw [hf, upd_ne (by decide), upd_eq]
  · rw [hf, upd_eq, gT, if_pos h]
  · rw [hf, upd_ne (by decide), upd_ne (by decide), upd_ne (by decide), gV, if_pos h]
  · rw [hf, upd_ne (by decide), upd_ne (by decide), upd_ne (by decide), gE, if_pos h]
  · rw [upd_ne (by omega), upd_ne (by omega), upd_ne (by omega)]
theorem go_L {tp r : Fl} {n k f m : Nat} {t : Int32} (hf : gF tp n k = f) (h : ¬ f = n) (h1 : isL tp n f) (hm : run (pL tp n) (n - f) f = m) (ht : t = if nI f = r 11 then 4 else 1) : GO tp n k r (upd (upd (upd (upd (upd (upd r 7 (nI f)) 8 (nI f)) 7 (nI m)) 9 t) 10 (tp f)) 11 (nI m)) := by
  have hN := (gN_L h h1).trans hm
  refine ⟨⟨?_, ?_, ?_, ?_, ?_⟩, fun q hq => ?_⟩
  · rw [hf, upd_ne (by decide), upd_ne (by decide), upd_ne (by decide), upd_eq, hN]
  · rw [hf, upd_ne (by decide), upd_ne (by decide), upd_ne (by decide), upd_ne (by decide), upd_eq]
  · rw [hf, upd_ne (by decide), upd_ne (by decide), upd_eq, gT, if_neg h, if_pos h1]; exact ht
  · rw [hf, upd_ne (by decide), upd_eq, gV, if_neg h, if_pos h1]
  · rw [hf, upd_eq, gE, if_neg h, if_pos (Or.inl h1), hN]
  · rw [upd_ne (by omega), upd_ne (by omega), upd_ne (by omega), upd_ne (by omega), upd_ne (by omega), upd_ne (by omega)]
theorem go_F {tp r : Fl} {n k f m : Nat} {t : Int32} (hf : gF tp n k = f) (h : ¬ f = n) (h1 : ¬ isL tp n f) (h2 : isF tp n f) (hm : run (pF tp n) (n - f) f = m) (ht : t = if nI f = r 11 ∨ 4 < m - f then 4 else 2) : GO tp n k r (upd (upd (upd (upd (upd (upd (upd r 7 (nI f)) 8 (nI f)) 10 0) 7 (nI m)) 10 (num tp f (min 4 (m - f)))) 9 t) 11 (nI m)) := by
  have hN := (gN_F h h1 h2).trans hm
  refine ⟨⟨?_, ?_, ?_, ?_, ?_⟩, fun q hq => ?_⟩
  · rw [hf, upd_ne (by decide), upd_ne (by decide), upd_ne (by decide), upd_eq, hN]
  · rw [hf, upd_ne (by decide), upd_ne (by decide), upd_ne (by decide), upd_ne (by decide), upd_ne (by decide), upd_eq]
  · rw [hf, upd_ne (by decide), upd_eq, gT, if_neg h, if_neg h1, if_pos h2, hN]; exact ht
  · rw [hf, upd_ne (by decide), upd_ne (by decide), upd_eq, gV, if_neg h, if_neg h1, if_pos h2, hN]
  · rw [hf, upd_eq, gE, if_neg h, if_pos (Or.inr h2), hN]
  · rw [upd_ne (by omega), upd_ne (by omega), upd_ne (by omega), upd_ne (by omega), upd_ne (by omega), upd_ne (by omega), upd_ne (by omega)]
theorem go_S {tp r : Fl} {n k f : Nat} (hf : gF tp n k = f) (h : ¬ f = n) (h1 : ¬ isL tp n f) (h2 : ¬ isF tp n f) : GO tp n k r (upd (upd (upd (upd (upd r 7 (nI f)) 8 (nI f)) 9 3) 10 (tp f)) 7 (nI (f + 1))) := by
  have hN := gN_S h h1 h2
  refine ⟨⟨?_, ?_, ?_, ?_, ?_⟩, fun q hq => ?_⟩
  · rw [hf, upd_eq, hN]
  · rw [hf, upd_ne (by decide), upd_ne (by decide), upd_ne (by decide), upd_eq]
  · rw [hf, upd_ne (by decide), upd_ne (by decide), upd_eq, gT, if_neg h, if_neg h1, if_neg h2]
  · rw [hf, upd_ne (by decide), upd_eq, gV, if_neg h, if_neg h1, if_neg h2]
  · rw [hf, upd_ne (by decide), upd_ne (by decide), upd_ne (by decide), upd_ne (by decide), upd_ne (by decide), gE, if_neg h, if_neg (fun z => z.elim h1 h2)]
  · rw [upd_ne (by omega), upd_ne (by omega), upd_ne (by omega), upd_ne (by omega), upd_ne (by omega)]
theorem fg0 {r : Fl} {x : Int32} : upd (upd (upd r 7 x) 8 x) 10 0 = upd (upd (upd (upd (upd r 7 x) 8 x) 10 0) 7 x) 10 0 := by
  funext q
  unfold upd
  by_cases e : q = 10
  · rw [if_pos e, if_pos e]
  · rw [if_neg e, if_neg e]
    by_cases e7 : q = 7
    · subst e7; rfl
    · rw [if_neg e7, if_neg e7]
theorem c8_go {s : Sn} {tp : Fl} {n k : Nat} (hn : n ≤ 96) (hk : k ≤ n) (ht : s.1 (41, 4, 0) = tp) (h6 : s.1 (40, 0, 0) 6 = nI n) (h7 : s.1 (40, 0, 0) 7 = nI k) : Ca (d + 1) MX8_go [vR 40 0 0] (hN s) (Pn fun t => GO tp n k (s.1 (40, 0, 0)) (t.1 (40, 0, 0)) ∧ Fr [(40, 0, 0)] s t) := by
  change Wp _ _ 0 [some _, none] [] _ _
  obtain ⟨f, hf⟩ : ∃ f, gF tp n k = f := ⟨_, rfl⟩
  have hfle := gF_le (tp := tp) hk
  rw [hf] at hfle
  refine l8_skip (s := s) (tp := tp) (n := n) (k0 := k) hn ht h6 (fun s2 q2 hF2 => ?_) k hk rfl s (by rw [← h7, upd_self2]) Fr.rf
  rw [hf] at q2
  have q7 : s2.1 (40, 0, 0) 7 = nI f := by rw [q2, upd_eq]
  refine wp_aload_n dX8_go_38 rfl rfl ?_
  refine wp_aload_n dX8_go_39 rfl rfl ?_
  refine wn_getI dX8_go_40 fRX8_180 o40 rfl rfl ?_
  rw [q7]
  refine wn_putI dX8_go_43 fRX8_183 o40 rfl rfl rfl ?_
  have e3 : (sI s2 (40, 0, 0) 8 (nI f)).1 (40, 0, 0) = (upd (upd (s.1 (40, 0, 0)) 7 (nI f)) 8 (nI f)) := by rw [sI_row, q2]
  have e38 : (sI s2 (40, 0, 0) 8 (nI f)).1 (40, 0, 0) 8 = nI f := by rw [e3, upd_eq]
  have e36 : (sI s2 (40, 0, 0) 8 (nI f)).1 (40, 0, 0) 6 = nI n := by rw [e3, upd_ne (by decide), upd_ne (by decide)]; exact h6
  have e34 : (sI s2 (40, 0, 0) 8 (nI f)).1 (41, 4, 0) = tp := by rw [sI_nr (by decide), hF2.1 _ (by decide)]; exact ht
  have hF3 : Fr [(40, 0, 0)] s (sI s2 (40, 0, 0) 8 (nI f)) := hF2.pt (by decide)
  refine wp_aload_n dX8_go_46 rfl rfl ?_
  refine wn_getI dX8_go_47 fRX8_183 o40 rfl rfl ?_
  rw [e38]
  refine wp_aload_n dX8_go_50 rfl rfl ?_
  refine wn_getI dX8_go_51 fRX8_186 o40 rfl rfl ?_
  rw [show (sI s2 (40, 0, 0) 8 (nI f)).1 (40, 0, 0) 11 = s.1 (40, 0, 0) 11 by rw [e3, upd_ne (by decide), upd_ne (by decide)]]
  refine wp_icmp_ne (t := 61) dX8_go_54 rfl rfl (fun h54 => ?_) (fun h54 => ?_)
  · refine wp_iconst (v := 0) dX8_go_61 (by decide) rfl ?_
    refine wp_istore_n (l' := [_, some _]) dX8_go_62 rfl rfl ?_
    refine wp_aload_n dX8_go_63 rfl rfl ?_
    refine wn_getI dX8_go_64 fRX8_183 o40 rfl rfl ?_
    rw [e38]
    refine wp_aload_n dX8_go_67 rfl rfl ?_
    refine wn_getI dX8_go_68 fRX8_176 o40 rfl rfl ?_
    rw [e36]
    refine wp_icmp_ne (t := 82) dX8_go_71 rfl rfl (fun h71 => ?_) (fun h71 => ?_)
    · have h54x := h54
      have hfn : ¬ f = n := fun z => h71 (by rw [z])
      refine wp_aload_n dX8_go_82 rfl rfl ?_
      refine wp_aload_n dX8_go_83 rfl rfl ?_
      refine wn_getI dX8_go_84 fRX8_183 o40 rfl rfl ?_
      rw [e38]
      refine wn_callV1d dX8_go_87 rRX8_192 (rcv_of o40 rfl) (Nat.le_of_ble_eq_true rfl) rfl (Nat.le_of_ble_eq_true rfl) rfl (c8_isLetter hn (by omega) e34 e36) ?_
      refine wp_if_eq_b (t := 154) dX8_go_90 rfl rfl (fun h90 => ?_) (fun h90 => ?_)
      · refine wp_aload_n dX8_go_154 rfl rfl ?_
        refine wp_aload_n dX8_go_155 rfl rfl ?_
        refine wn_getI dX8_go_156 fRX8_183 o40 rfl rfl ?_
        rw [e38]
        refine wn_callV1d dX8_go_159 rRX8_198 (rcv_of o40 rfl) (Nat.le_of_ble_eq_true rfl) rfl (Nat.le_of_ble_eq_true rfl) rfl (c8_isFigure hn (by omega) e34 e36) ?_
        refine wp_if_eq_b (t := 275) dX8_go_162 rfl rfl (fun h162 => ?_) (fun h162 => ?_)
        · refine wp_aload_n dX8_go_275 rfl rfl ?_
          refine wp_iconst (v := 3) dX8_go_276 (by decide) rfl ?_
          refine wn_putI dX8_go_277 fRX8_189 o40 rfl rfl rfl ?_
          refine wp_aload_n dX8_go_280 rfl rfl ?_
          refine wp_aload_n dX8_go_281 rfl rfl ?_
          refine wn_getR dX8_go_282 fRX8_22 o40 rfl rfl rfl ?_
          refine wp_aload_n dX8_go_285 rfl rfl ?_
          refine wn_getI dX8_go_286 fRX8_183 o40 rfl rfl ?_
          rw [sI_nk (by decide), e38]
          refine wn_iald dX8_go_289 (o41 4 rfl) rfl (nIx rfl (by omega)) (show f < 96 by omega) rfl ?_
          rw [sI_nr (by decide), e34]
          refine wn_putI dX8_go_290 fRX8_195 o40 rfl rfl rfl ?_
          refine wp_aload_n dX8_go_293 rfl rfl ?_
          refine wp_dup dX8_go_294 rfl rfl ?_
          refine wn_getI dX8_go_295 fRX8_180 o40 rfl rfl ?_
          rw [sI_nk (by decide), sI_nk (by decide), show (sI s2 (40, 0, 0) 8 (nI f)).1 (40, 0, 0) 7 = nI f by rw [e3, upd_ne (by decide), upd_eq]]
          refine wp_iconst (v := 1) dX8_go_298 (by decide) rfl ?_
          refine wp_iadd dX8_go_299 rfl ?_
          rw [nI_1]
          refine wn_putI dX8_go_300 fRX8_180 o40 rfl rfl rfl ?_
          refine wp_ret dX8_go_303 rfl ?_
          refine ⟨_, rfl, rfl, ?_, ((hF3.pt (by decide)).pt (by decide)).pt (by decide)⟩
          rw [sI_row, sI_row, sI_row, e3]
          exact go_S hf hfn h90 h162
        · refine wp_aload_n dX8_go_165 rfl rfl ?_
          refine wp_iconst (v := 0) dX8_go_166 (by decide) rfl ?_
          refine wn_putI dX8_go_167 fRX8_195 o40 rfl rfl rfl ?_
          refine l8_figs (d := d) (s := (sI (sI s2 (40, 0, 0) 8 (nI f)) (40, 0, 0) 10 0)) (tp := tp) (n := n) (f := f) (k0 := run (pF tp n) (n - f) f) hn (by rw [sI_nr (by decide)]; exact e34) (by rw [sI_nk (by decide)]; exact e36) (by rw [sI_nk (by decide)]; exact e38) (fun s4 q4 hF4 => ?_) f (by omega) (by omega) rfl (sI (sI s2 (40, 0, 0) 8 (nI f)) (40, 0, 0) 10 0) (by rw [Nat.sub_self]; rw [sI_row, e3]; exact fg0) Fr.rf
          have hrun := run_ge (p := pF tp n) (n - f) f
          have e47 : s4.1 (40, 0, 0) 7 = nI (run (pF tp n) (n - f) f) := by rw [q4, upd_ne (by decide), upd_eq]
          have e48 : s4.1 (40, 0, 0) 8 = nI f := by rw [q4, upd_ne (by decide), upd_ne (by decide), sI_row, upd_ne (by decide), e3, upd_eq]
          refine wp_aload_n dX8_go_238 rfl rfl ?_
          refine wp_iload_n dX8_go_239 rfl rfl ?_
          refine wp_if_ne (t := 256) dX8_go_240 rfl rfl (fun h240 => absurd rfl h240) (fun h240 => ?_)
          refine wp_aload_n dX8_go_243 rfl rfl ?_
          refine wn_getI dX8_go_244 fRX8_180 o40 rfl rfl ?_
          refine wp_aload_n dX8_go_247 rfl rfl ?_
          refine wn_getI dX8_go_248 fRX8_183 o40 rfl rfl ?_
          refine wp_isub dX8_go_251 rfl ?_
          rw [e47, e48, nI_subn (by omega)]
          refine wp_iconst (v := 4) dX8_go_252 (by decide) rfl ?_
          refine wp_icmp_le (t := 260) dX8_go_253 rfl rfl (fun h253 => ?_) (fun h253 => ?_)
          · refine wp_iconst (v := 2) dX8_go_260 (by decide) rfl ?_
            refine wn_putI dX8_go_261 fRX8_189 o40 rfl rfl rfl ?_
            refine wp_aload_n dX8_go_264 rfl rfl ?_
            refine wp_aload_n dX8_go_265 rfl rfl ?_
            refine wn_getI dX8_go_266 fRX8_180 o40 rfl rfl ?_
            rw [sI_nk (by decide), e47]
            refine wn_putI dX8_go_269 fRX8_186 o40 rfl rfl rfl ?_
            refine wp_goto (t := 303) dX8_go_272 rfl ?_
            refine wp_ret dX8_go_303 rfl ?_
            refine ⟨_, rfl, rfl, ?_, (((hF3.pt (by decide)).tr hF4).pt (by decide)).pt (by decide)⟩
            rw [sI_row, sI_row, q4, sI_row, e3]
            exact go_F hf hfn h90 h162 rfl (if_neg (fun z => z.elim h54x (fun z => by have := (nI_leI (b := 4) (by omega) (by decide)).mp h253; omega))).symm
          · refine wp_iconst (v := 4) dX8_go_256 (by decide) rfl ?_
            refine wp_goto (t := 261) dX8_go_257 rfl ?_
            refine wn_putI dX8_go_261 fRX8_189 o40 rfl rfl rfl ?_
            refine wp_aload_n dX8_go_264 rfl rfl ?_
            refine wp_aload_n dX8_go_265 rfl rfl ?_
            refine wn_getI dX8_go_266 fRX8_180 o40 rfl rfl ?_
            rw [sI_nk (by decide), e47]
            refine wn_putI dX8_go_269 fRX8_186 o40 rfl rfl rfl ?_
            refine wp_goto (t := 303) dX8_go_272 rfl ?_
            refine wp_ret dX8_go_303 rfl ?_
            refine ⟨_, rfl, rfl, ?_, (((hF3.pt (by decide)).tr hF4).pt (by decide)).pt (by decide)⟩
            rw [sI_row, sI_row, q4, sI_row, e3]
            exact go_F hf hfn h90 h162 rfl (if_pos (Or.inr (by have := mt (nI_leI (b := 4) (by omega) (by decide)).mpr h253; omega))).symm
      · refine l8_lets (d := d) (s := (sI s2 (40, 0, 0) 8 (nI f))) (tp := tp) (n := n) (k0 := run (pL tp n) (n - f) f) hn e34 e36 (fun s4 q4 hF4 => ?_) f (by omega) rfl (sI s2 (40, 0, 0) 8 (nI f)) (by rw [e3, upd_sw (by decide), upd_upd, upd_sw (by decide)]) Fr.rf
        have e48 : s4.1 (40, 0, 0) 8 = nI f := by rw [q4, upd_ne (by decide), e3, upd_eq]
        have e44 : s4.1 (41, 4, 0) = tp := by rw [hF4.1 _ (by decide)]; exact e34
        refine wp_aload_n dX8_go_117 rfl rfl ?_
        refine wp_iload_n dX8_go_118 rfl rfl ?_
        refine wp_if_eq (t := 126) dX8_go_119 rfl rfl (fun h119 => ?_) (fun h119 => absurd rfl h119)
        refine wp_iconst (v := 1) dX8_go_126 (by decide) rfl ?_
        refine wn_putI dX8_go_127 fRX8_189 o40 rfl rfl rfl ?_
        refine wp_aload_n dX8_go_130 rfl rfl ?_
        refine wp_aload_n dX8_go_131 rfl rfl ?_
        refine wn_getR dX8_go_132 fRX8_22 o40 rfl rfl rfl ?_
        refine wp_aload_n dX8_go_135 rfl rfl ?_
        refine wn_getI dX8_go_136 fRX8_183 o40 rfl rfl ?_
        rw [sI_nk (by decide), e48]
        refine wn_iald dX8_go_139 (o41 4 rfl) rfl (nIx rfl (by omega)) (show f < 96 by omega) rfl ?_
        rw [sI_nr (by decide), e44]
        refine wn_putI dX8_go_140 fRX8_195 o40 rfl rfl rfl ?_
        refine wp_aload_n dX8_go_143 rfl rfl ?_
        refine wp_aload_n dX8_go_144 rfl rfl ?_
        refine wn_getI dX8_go_145 fRX8_180 o40 rfl rfl ?_
        rw [sI_nk (by decide), sI_nk (by decide), show s4.1 (40, 0, 0) 7 = nI (run (pL tp n) (n - f) f) by rw [q4, upd_eq]]
        refine wn_putI dX8_go_148 fRX8_186 o40 rfl rfl rfl ?_
        refine wp_goto (t := 303) dX8_go_151 rfl ?_
        refine wp_ret dX8_go_303 rfl ?_
        refine ⟨_, rfl, rfl, ?_, ((((hF3.tr hF4).pt (by decide)).pt (by decide)).pt (by decide))⟩
        rw [sI_row, sI_row, sI_row, q4, e3]
        exact go_L hf hfn h90 rfl (if_neg h54x).symm
    · refine wp_aload_n dX8_go_74 rfl rfl ?_
      refine wp_iconst (v := 0) dX8_go_75 (by decide) rfl ?_
      refine wn_putI dX8_go_76 fRX8_189 o40 rfl rfl rfl ?_
      refine wp_goto (t := 303) dX8_go_79 rfl ?_
      refine wp_ret dX8_go_303 rfl ?_
      refine ⟨_, rfl, rfl, ?_, hF3.pt (by decide)⟩
      rw [sI_row, e3]
      exact go_0 hf ((nI_eq (by omega) (by omega)).mp h71)
  · refine wp_iconst (v := 1) dX8_go_57 (by decide) rfl ?_
    refine wp_goto (t := 62) dX8_go_58 rfl ?_
    refine wp_istore_n (l' := [_, some _]) dX8_go_62 rfl rfl ?_
    refine wp_aload_n dX8_go_63 rfl rfl ?_
    refine wn_getI dX8_go_64 fRX8_183 o40 rfl rfl ?_
    rw [e38]
    refine wp_aload_n dX8_go_67 rfl rfl ?_
    refine wn_getI dX8_go_68 fRX8_176 o40 rfl rfl ?_
    rw [e36]
    refine wp_icmp_ne (t := 82) dX8_go_71 rfl rfl (fun h71 => ?_) (fun h71 => ?_)
    · have h54x := h54
      have hfn : ¬ f = n := fun z => h71 (by rw [z])
      refine wp_aload_n dX8_go_82 rfl rfl ?_
      refine wp_aload_n dX8_go_83 rfl rfl ?_
      refine wn_getI dX8_go_84 fRX8_183 o40 rfl rfl ?_
      rw [e38]
      refine wn_callV1d dX8_go_87 rRX8_192 (rcv_of o40 rfl) (Nat.le_of_ble_eq_true rfl) rfl (Nat.le_of_ble_eq_true rfl) rfl (c8_isLetter hn (by omega) e34 e36) ?_
      refine wp_if_eq_b (t := 154) dX8_go_90 rfl rfl (fun h90 => ?_) (fun h90 => ?_)
      · refine wp_aload_n dX8_go_154 rfl rfl ?_
        refine wp_aload_n dX8_go_155 rfl rfl ?_
        refine wn_getI dX8_go_156 fRX8_183 o40 rfl rfl ?_
        rw [e38]
        refine wn_callV1d dX8_go_159 rRX8_198 (rcv_of o40 rfl) (Nat.le_of_ble_eq_true rfl) rfl (Nat.le_of_ble_eq_true rfl) rfl (c8_isFigure hn (by omega) e34 e36) ?_
        refine wp_if_eq_b (t := 275) dX8_go_162 rfl rfl (fun h162 => ?_) (fun h162 => ?_)
        · refine wp_aload_n dX8_go_275 rfl rfl ?_
          refine wp_iconst (v := 3) dX8_go_276 (by decide) rfl ?_
          refine wn_putI dX8_go_277 fRX8_189 o40 rfl rfl rfl ?_
          refine wp_aload_n dX8_go_280 rfl rfl ?_
          refine wp_aload_n dX8_go_281 rfl rfl ?_
          refine wn_getR dX8_go_282 fRX8_22 o40 rfl rfl rfl ?_
          refine wp_aload_n dX8_go_285 rfl rfl ?_
          refine wn_getI dX8_go_286 fRX8_183 o40 rfl rfl ?_
          rw [sI_nk (by decide), e38]
          refine wn_iald dX8_go_289 (o41 4 rfl) rfl (nIx rfl (by omega)) (show f < 96 by omega) rfl ?_
          rw [sI_nr (by decide), e34]
          refine wn_putI dX8_go_290 fRX8_195 o40 rfl rfl rfl ?_
          refine wp_aload_n dX8_go_293 rfl rfl ?_
          refine wp_dup dX8_go_294 rfl rfl ?_
          refine wn_getI dX8_go_295 fRX8_180 o40 rfl rfl ?_
          rw [sI_nk (by decide), sI_nk (by decide), show (sI s2 (40, 0, 0) 8 (nI f)).1 (40, 0, 0) 7 = nI f by rw [e3, upd_ne (by decide), upd_eq]]
          refine wp_iconst (v := 1) dX8_go_298 (by decide) rfl ?_
          refine wp_iadd dX8_go_299 rfl ?_
          rw [nI_1]
          refine wn_putI dX8_go_300 fRX8_180 o40 rfl rfl rfl ?_
          refine wp_ret dX8_go_303 rfl ?_
          refine ⟨_, rfl, rfl, ?_, ((hF3.pt (by decide)).pt (by decide)).pt (by decide)⟩
          rw [sI_row, sI_row, sI_row, e3]
          exact go_S hf hfn h90 h162
        · refine wp_aload_n dX8_go_165 rfl rfl ?_
          refine wp_iconst (v := 0) dX8_go_166 (by decide) rfl ?_
          refine wn_putI dX8_go_167 fRX8_195 o40 rfl rfl rfl ?_
          refine l8_figs (d := d) (s := (sI (sI s2 (40, 0, 0) 8 (nI f)) (40, 0, 0) 10 0)) (tp := tp) (n := n) (f := f) (k0 := run (pF tp n) (n - f) f) hn (by rw [sI_nr (by decide)]; exact e34) (by rw [sI_nk (by decide)]; exact e36) (by rw [sI_nk (by decide)]; exact e38) (fun s4 q4 hF4 => ?_) f (by omega) (by omega) rfl (sI (sI s2 (40, 0, 0) 8 (nI f)) (40, 0, 0) 10 0) (by rw [Nat.sub_self]; rw [sI_row, e3]; exact fg0) Fr.rf
          have hrun := run_ge (p := pF tp n) (n - f) f
          have e47 : s4.1 (40, 0, 0) 7 = nI (run (pF tp n) (n - f) f) := by rw [q4, upd_ne (by decide), upd_eq]
          have e48 : s4.1 (40, 0, 0) 8 = nI f := by rw [q4, upd_ne (by decide), upd_ne (by decide), sI_row, upd_ne (by decide), e3, upd_eq]
          refine wp_aload_n dX8_go_238 rfl rfl ?_
          refine wp_iload_n dX8_go_239 rfl rfl ?_
          refine wp_if_ne (t := 256) dX8_go_240 rfl rfl (fun h240 => ?_) (fun h240 => absurd (show (1 : Int32) = 0 from h240) (by decide))
          refine wp_iconst (v := 4) dX8_go_256 (by decide) rfl ?_
          refine wp_goto (t := 261) dX8_go_257 rfl ?_
          refine wn_putI dX8_go_261 fRX8_189 o40 rfl rfl rfl ?_
          refine wp_aload_n dX8_go_264 rfl rfl ?_
          refine wp_aload_n dX8_go_265 rfl rfl ?_
          refine wn_getI dX8_go_266 fRX8_180 o40 rfl rfl ?_
          rw [sI_nk (by decide), e47]
          refine wn_putI dX8_go_269 fRX8_186 o40 rfl rfl rfl ?_
          refine wp_goto (t := 303) dX8_go_272 rfl ?_
          refine wp_ret dX8_go_303 rfl ?_
          refine ⟨_, rfl, rfl, ?_, (((hF3.pt (by decide)).tr hF4).pt (by decide)).pt (by decide)⟩
          rw [sI_row, sI_row, q4, sI_row, e3]
          exact go_F hf hfn h90 h162 rfl (if_pos (Or.inl h54x)).symm
      · refine l8_lets (d := d) (s := (sI s2 (40, 0, 0) 8 (nI f))) (tp := tp) (n := n) (k0 := run (pL tp n) (n - f) f) hn e34 e36 (fun s4 q4 hF4 => ?_) f (by omega) rfl (sI s2 (40, 0, 0) 8 (nI f)) (by rw [e3, upd_sw (by decide), upd_upd, upd_sw (by decide)]) Fr.rf
        have e48 : s4.1 (40, 0, 0) 8 = nI f := by rw [q4, upd_ne (by decide), e3, upd_eq]
        have e44 : s4.1 (41, 4, 0) = tp := by rw [hF4.1 _ (by decide)]; exact e34
        refine wp_aload_n dX8_go_117 rfl rfl ?_
        refine wp_iload_n dX8_go_118 rfl rfl ?_
        refine wp_if_eq (t := 126) dX8_go_119 rfl rfl (fun h119 => absurd h119 (by decide)) (fun h119 => ?_)
        refine wp_iconst (v := 4) dX8_go_122 (by decide) rfl ?_
        refine wp_goto (t := 127) dX8_go_123 rfl ?_
        refine wn_putI dX8_go_127 fRX8_189 o40 rfl rfl rfl ?_
        refine wp_aload_n dX8_go_130 rfl rfl ?_
        refine wp_aload_n dX8_go_131 rfl rfl ?_
        refine wn_getR dX8_go_132 fRX8_22 o40 rfl rfl rfl ?_
        refine wp_aload_n dX8_go_135 rfl rfl ?_
        refine wn_getI dX8_go_136 fRX8_183 o40 rfl rfl ?_
        rw [sI_nk (by decide), e48]
        refine wn_iald dX8_go_139 (o41 4 rfl) rfl (nIx rfl (by omega)) (show f < 96 by omega) rfl ?_
        rw [sI_nr (by decide), e44]
        refine wn_putI dX8_go_140 fRX8_195 o40 rfl rfl rfl ?_
        refine wp_aload_n dX8_go_143 rfl rfl ?_
        refine wp_aload_n dX8_go_144 rfl rfl ?_
        refine wn_getI dX8_go_145 fRX8_180 o40 rfl rfl ?_
        rw [sI_nk (by decide), sI_nk (by decide), show s4.1 (40, 0, 0) 7 = nI (run (pL tp n) (n - f) f) by rw [q4, upd_eq]]
        refine wn_putI dX8_go_148 fRX8_186 o40 rfl rfl rfl ?_
        refine wp_goto (t := 303) dX8_go_151 rfl ?_
        refine wp_ret dX8_go_303 rfl ?_
        refine ⟨_, rfl, rfl, ?_, ((((hF3.tr hF4).pt (by decide)).pt (by decide)).pt (by decide))⟩
        rw [sI_row, sI_row, sI_row, q4, e3]
        exact go_L hf hfn h90 rfl (if_pos h54x).symm
    · refine wp_aload_n dX8_go_74 rfl rfl ?_
      refine wp_iconst (v := 0) dX8_go_75 (by decide) rfl ?_
      refine wn_putI dX8_go_76 fRX8_189 o40 rfl rfl rfl ?_
      refine wp_goto (t := 303) dX8_go_79 rfl ?_
      refine wp_ret dX8_go_303 rfl ?_
      refine ⟨_, rfl, rfl, ?_, hF3.pt (by decide)⟩
      rw [sI_row, e3]
      exact go_0 hf ((nI_eq (by omega) (by omega)).mp h71)
end
