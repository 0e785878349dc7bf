section
variable {d i : Nat}
theorem LW.cg {s t : Sn} {f f' : Fl} {c8 : Nat} {key : Int32} {r : Option Rf} (h : LW s i f c8 key r) (hs : ∀ r : Rf, r.1 = 34 ∨ r.1 = 35 → t.1 r = s.1 r) (h2 : t.2 = s.2) (hf : ∀ k, 105 ≤ k → f' k = f k) : LW t i f' c8 key r := by
  rcases h with ⟨h1, h3⟩ | ⟨u, n, h1, h3, h4, h5⟩
  · exact Or.inl ⟨(cts_cong hf c8).trans h1, h3⟩
  · exact Or.inr ⟨u, n, (cts_cong hf c8).trans h1, by rw [h2]; exact h3, h4, h5.cg (hs _ (Or.inl rfl)) (hs _ (Or.inr rfl)) (by rw [h2]) hf⟩
theorem XR_law {r : Rf} (h : r.1 = 34 ∨ r.1 = 35) : ¬ XR i r := by
  intro z
  rcases z with z | ⟨_, z | z | z⟩ <;> rcases h with h | h <;> exact absurd (z.symm.trans h) (by decide)
theorem MW.cg {s t : Sn} {f : Fl} {c : Nat} (h : MW s i f c) (hF : FQ X36 s t) : MW t i f c := by
  obtain ⟨h1, h2, h3, h4, h5⟩ := h
  refine ⟨h1.cg (fun r _ hr => hF.1 r ?_) (fun _ _ => rfl), fun r hr => ?_, ?_, h4, h5⟩
  · intro z
    have z : r.1 = 36 := z
    rcases hr with hr | hr | hr | hr | hr <;> exact absurd (z.symm.trans hr) (by decide)
  · rw [hF.1 (16, i, 0) (show ¬ (16 = 36) by decide)]; exact h2 r hr
  · rw [hF.1 (11, i, 0) (show ¬ (11 = 36) by decide)]; exact h3
theorem X36_XR {r : Rf} (h : X36 r) : XR i r := Or.inl h
theorem l3_cf {c c8 m0 : Nat} {r : Option Rf} (hi : i < 4) (hm0 : m0 < 12) : ∀ k, k ≤ c → ∀ (s1 : Sn) (f1 : Fl), MW s1 i f1 c → Wr f1 c c8 → LW s1 i f1 c8 0 r → Wp (d + 3) MX3_carryFrom 2 [some (vR 11 i 0), some (vI (nI m0)), some (.inr (.inr r)), some (vI (nI k))] [] (hN s1) (Pn fun t => MW t i (rch (nI m0) (c - k) f1) c ∧ FQ (XR i) s1 t) := by
  refine ind_up (fun k hk ih => ?_)
  intro s1 f1 hM hW hL
  have hcn : cn f1 = c := hW.1.cn
  have hc12 := hW.1.2.1
  have hlc : s1.1 (11, i, 0) 6 = nI c := (hM.1.sc 1 (by decide)).trans hW.1.1
  refine wp_iload_n dX3_carryFrom_2 rfl rfl ?_
  refine wp_aload_n dX3_carryFrom_3 rfl rfl ?_
  refine wn_getI dX3_carryFrom_4 fRX3_36 (o11 hi) rfl rfl ?_
  rw [hlc]
  refine wp_icmp_ge (t := 50) dX3_carryFrom_7 rfl rfl (fun h7 => ?_) (fun h7 => ?_)
  · refine wp_ret dX3_carryFrom_50 rfl ?_
    have hkc : k = c := by have := (nI_leI (by omega) (by omega)).mp h7; omega
    subst hkc
    refine ⟨_, rfl, rfl, ?_, FQ.rf⟩
    rw [Nat.sub_self]
    exact hM
  · have hl : k < c := by have := mt (nI_leI (by omega) (by omega)).mpr h7; omega
    have hrd : s1.1 (12, i, k) 3 = f1 (45 + 5 * k + 3) := hM.1.lg (by omega) (by omega) (by decide)
    refine wp_aload_n dX3_carryFrom_10 rfl rfl ?_
    refine wn_getR dX3_carryFrom_11 fRX3_11 (o11 hi) rfl rfl rfl ?_
    refine wp_iload_n dX3_carryFrom_14 rfl rfl ?_
    refine wn_aald13 dX3_carryFrom_15 hi (nIx rfl (by omega)) (show k < 12 by omega) rfl ?_
    refine wn_getI dX3_carryFrom_16 fRX3_91 (o12 hi (show k < 12 by omega)) rfl rfl ?_
    refine wp_iload_n dX3_carryFrom_19 rfl rfl ?_
    refine wp_icmp_ne (t := 44) dX3_carryFrom_20 rfl rfl (fun h20 => ?_) (fun h20 => ?_)
    · refine wp_iinc (l' := [_, _, _, some _]) (v := 1) dX3_carryFrom_44 rfl (by decide) rfl rfl ?_
      refine wp_goto (t := 2) dX3_carryFrom_47 rfl ?_
      have hs := rch_step (r := nI m0) (f := f1) hcn hl
      rw [if_neg (by rw [← hrd]; exact h20)] at hs
      rw [nI_1, hs]
      exact ih hl s1 f1 hM hW hL
    · refine wp_aload_n dX3_carryFrom_23 rfl rfl ?_
      refine wp_aload_n dX3_carryFrom_24 rfl rfl ?_
      refine wn_getR dX3_carryFrom_25 fRX3_11 (o11 hi) rfl rfl rfl ?_
      refine wp_iload_n dX3_carryFrom_28 rfl rfl ?_
      refine wn_aald13 dX3_carryFrom_29 hi (nIx rfl (by omega)) (show k < 12 by omega) rfl ?_
      refine wp_aload_n dX3_carryFrom_30 rfl rfl ?_
      refine wp_aload_n dX3_carryFrom_31 rfl rfl ?_
      refine wn_getR dX3_carryFrom_32 fRX3_11 (o11 hi) rfl rfl rfl ?_
      refine wp_iload_n dX3_carryFrom_35 rfl rfl ?_
      refine wn_aald13 dX3_carryFrom_36 hi (nIx rfl (by omega)) (show k < 12 by omega) rfl ?_
      refine wp_aload_n dX3_carryFrom_37 rfl rfl ?_
      refine wn_callV2i dX3_carryFrom_38 rRX3_154 (rcv_of (o11 hi) rfl) (Nat.le_of_ble_eq_true rfl) rfl rfl (Nat.le_of_ble_eq_true rfl) rfl (c3_driftOf hi hM.1 hW hL hl) (fun x38 s38 hq38 => ?_)
      obtain ⟨e38, hF38⟩ := hq38
      obtain ⟨m, hm13, em⟩ := drf_nat (f := f1) (g := k)
      rw [em] at e38
      subst e38
      obtain ⟨q, hq13, hq⟩ := hW.1.2.2.2.2.2 k (by omega)
      refine wn_callV2n dX3_carryFrom_41 rRX3_158 (rcv_of (o11 hi) rfl) (Nat.le_of_ble_eq_true rfl) rfl rfl (Nat.le_of_ble_eq_true rfl) rfl (c3_carry hi hl (by omega) hm13 (hM.cg hF38) hq13 hq) (fun s41 hq41 => ?_)
      obtain ⟨hM41, hF41⟩ := hq41
      refine wp_iinc (l' := [_, _, _, some _]) (v := 1) dX3_carryFrom_44 rfl (by decide) rfl rfl ?_
      refine wp_goto (t := 2) dX3_carryFrom_47 rfl ?_
      have hs := rch_step (r := nI m0) (f := f1) hcn hl
      rw [if_pos (by rw [← hrd]; exact h20), em, nI_clamp (by omega)] at hs
      rw [nI_1]
      refine (ih hl s41 (gdn k m f1) hM41 (hW.gdn (by omega) m) (hL.cg (fun r hr => (hF41.1 r (XR_law hr)).trans (hF38.1 r (fun z => XR_law (i := i) hr (X36_XR z)))) (hF41.2.trans hF38.2) (fun q hq => gdn_keep (by omega) (by omega) m f1))).conseq ?_
      rintro v σ1 ⟨t, rfl, rfl, hMt, hFt⟩
      refine ⟨_, rfl, rfl, ?_, ((hF38.wd (fun r => X36_XR)).tr hF41).tr hFt⟩
      rw [hs]
      exact hMt
theorem c3_carryFrom {s : Sn} {f : Fl} {c c8 m0 : Nat} {r : Option Rf} (hi : i < 4) (hm0 : m0 < 12) (hM : MW s i f c) (hW : Wr f c c8) (hL : LW s i f c8 0 r) : Ca (d + 3) MX3_carryFrom [vR 11 i 0, vI (nI m0), .inr (.inr r)] (hN s) (Pn fun t => MW t i (rch (nI m0) c f) c ∧ FQ (XR i) s t) := by
  change Wp _ _ 0 [some _, some _, some _, none] [] _ _
  refine wp_iconst (v := 0) dX3_carryFrom_0 (by decide) rfl ?_
  refine wp_istore_n (l' := [_, _, _, some _]) dX3_carryFrom_1 rfl rfl ?_
  have h := l3_cf (d := d) hi hm0 0 (Nat.zero_le _) s f hM hW hL
  rw [Nat.sub_zero] at h
  exact h
end
