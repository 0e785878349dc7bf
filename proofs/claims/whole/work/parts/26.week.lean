/-! THE PURE PART, 11: the reference's weeks, whole -/
theorem stp_keep {f : Fl} {g k : Nat} (h3 : k ≠ 45 + 5 * g + 3) (h4 : k ≠ 45 + 5 * g + 4) : (stp f g).1 k = f k := by
  unfold stp
  dsimp only
  split
  · split
    · show upd (upd f _ _) _ _ k = f k
      rw [upd_ne h3, upd_ne h4]
    · show upd f _ _ k = f k
      rw [upd_ne h3]
  · rfl
theorem stp_rch {f : Fl} {g r : Nat} (hr : f (45 + 5 * g + 3) = nI r) (h13 : r ≤ 13) : ∃ q, q ≤ 13 ∧ (stp f g).1 (45 + 5 * g + 3) = nI q := by
  unfold stp
  dsimp only
  split
  · rename_i hc
    split
    · exact ⟨12, by omega, by show upd _ _ _ _ = _; rw [upd_eq]; rfl⟩
    · refine ⟨r + 1, ?_, by show upd _ _ _ _ = _; rw [upd_eq, hr, nI_1]⟩
      have h1 := hc.1
      rw [hr] at h1
      have := (nI_ltI (b := 12) (by omega) (by omega)).mp h1
      omega
  · exact ⟨r, h13, hr⟩
theorem gdn_keep {g k : Nat} (h3 : k ≠ 45 + 5 * g + 3) (h4 : k ≠ 45 + 5 * g + 4) : ∀ (n : Nat) (f : Fl), gdn g n f k = f k
  | 0, f => rfl
  | n + 1, f => by
    rw [gdn]
    split
    · rw [gdn_keep h3 h4 n, stp_keep h3 h4]
    · exact stp_keep h3 h4
theorem gdn_rch {g : Nat} : ∀ (n : Nat) (f : Fl) (r : Nat), f (45 + 5 * g + 3) = nI r → r ≤ 13 → ∃ q, q ≤ 13 ∧ gdn g n f (45 + 5 * g + 3) = nI q
  | 0, f, r, h, h13 => ⟨r, h13, h⟩
  | n + 1, f, r, h, h13 => by
    obtain ⟨q, hq, e⟩ := stp_rch h h13
    rw [gdn]
    split
    · exact gdn_rch n _ q e hq
    · exact ⟨q, hq, e⟩
/-- fit for weeks -/
def Wq (f : Fl) (c c8 : Nat) : Prop := f 1 = nI c ∧ c ≤ 12 ∧ f 8 = nI c8 ∧ c8 ≤ 14 ∧ (∀ t, t < c8 → WT f t) ∧ ∀ g, g < 12 → ∃ r, r ≤ 13 ∧ f (45 + 5 * g + 3) = nI r
theorem WT_cong {f f' : Fl} {t : Nat} (h : ∀ k, 105 ≤ k → f' k = f k) (hT : WT f t) : WT f' t := by
  obtain ⟨n, h1, h2, h3⟩ := hT
  refine ⟨n, h1, by rw [h _ (by omega)]; exact h2, ?_⟩
  have e : cod f' t n = cod f t n := by
    unfold cod
    apply List.map_congr_left
    intro k _
    exact h _ (by omega)
  rw [e]; exact h3
theorem Wq.keep {f f' : Fl} {c c8 : Nat} (h : Wq f c c8) (h1 : f' 1 = f 1) (h8 : f' 8 = f 8) (ht : ∀ k, 105 ≤ k → f' k = f k) (hr : ∀ g, g < 12 → ∃ r, r ≤ 13 ∧ f' (45 + 5 * g + 3) = nI r) : Wq f' c c8 := ⟨h1.trans h.1, h.2.1, h8.trans h.2.2.1, h.2.2.2.1, fun t ht2 => WT_cong ht (h.2.2.2.2.1 t ht2), hr⟩
theorem Wq.cn {f : Fl} {c c8 : Nat} (h : Wq f c c8) : (f 1).toNatClampNeg = c := by
  show (f 1).toNatClampNeg = c
  rw [h.1, nI_clamp (by have := h.2.1; omega)]
theorem Wq.gdn {f : Fl} {c c8 g : Nat} (h : Wq f c c8) (hg : g < 12) (n : Nat) : Wq (gdn g n f) c c8 := by
  refine h.keep (gdn_keep (by omega) (by omega) n f) (gdn_keep (by omega) (by omega) n f) (fun k hk => gdn_keep (by omega) (by omega) n f) (fun q hq => ?_)
  by_cases e : q = g
  · subst e
    obtain ⟨r, hr, er⟩ := h.2.2.2.2.2 q hq
    exact gdn_rch n f r er hr
  · obtain ⟨r, hr, er⟩ := h.2.2.2.2.2 q hq
    exact ⟨r, hr, by rw [gdn_keep (by omega) (by omega)]; exact er⟩
theorem dv_nat (z : Int32) : ∃ k, k < 16777216 ∧ dv z = nI k := by
  refine ⟨z.toBitVec.toNat / 2 ^ 8, ?_, ?_⟩
  · have := z.toBitVec.isLt
    omega
  · unfold dv
    have h := pk_ushr z 8 8 (by decide)
    apply Int32.toBitVec_inj.mp
    apply BitVec.eq_of_toNat_eq
    rw [h]
    have := z.toBitVec.isLt
    rw [pk_tn (by omega)]
theorem rm_nat {k c : Nat} (hk : k < 2 ^ 31) (h0 : 0 < c) (hc : c < 2 ^ 31) : rm (nI k) (nI c) = nI (k % c) := pk_rem hk h0 hc
section
variable {d : Nat}
theorem c8_saws {s : Sn} {c : Nat} (h0 : 0 < c) (hc : c ≤ 12) (h1 : s.1 (41, 0, 0) 1 = nI c) : Ca (d + 2) MX8_saws [vR 40 0 0] (hN s) (Pn fun t => t.1 (41, 0, 0) = swg (s.1 (41, 0, 0)) ∧ Fr [(41, 0, 0), (41, 10, 0), (41, 11, 0)] s t) := by
  change Wp _ _ 0 [some _, none] [] _ _
  obtain ⟨k1, hk1, e1⟩ := dv_nat (dz (s.1 (41, 0, 0) 0))
  have hg : rm (dv (dz (s.1 (41, 0, 0) 0))) (s.1 (41, 0, 0) 1) = nI (k1 % c) := by rw [e1, h1]; exact rm_nat (by omega) h0 (by omega)
  have hlt : k1 % c < 12 := by have := Nat.mod_lt k1 h0; omega
  have hgn : (rm (dv (dz (s.1 (41, 0, 0) 0))) (s.1 (41, 0, 0) 1)).toNatClampNeg = k1 % c := by rw [hg, nI_clamp (by omega)]
  refine wp_aload_n dX8_saws_0 rfl rfl ?_
  refine wn_callV0d dX8_saws_1 rRX8_129 (rcv_of o40 rfl) (Nat.le_of_ble_eq_true rfl)  (Nat.le_of_ble_eq_true rfl) rfl (c8_draw) ?_
  refine wp_aload_n dX8_saws_4 rfl rfl ?_
  refine wn_getR dX8_saws_5 fRX8_9 o40 rfl rfl rfl ?_
  refine wp_iconst (v := 1) dX8_saws_8 (by decide) rfl ?_
  refine wn_iald (j := 1) dX8_saws_9 (o41 0 rfl) rfl ⟨by decide, by decide⟩ (Nat.le_of_ble_eq_true rfl) rfl ?_
  rw [sI_nk (show (1 : Nat) ≠ 0 by decide)]
  refine wp_irem dX8_saws_10 (by rw [h1]; exact nI_ne0 h0 (by omega)) rfl ?_
  rw [show ∀ x y : Int32, x - x / y * y = rm x y from fun _ _ => rfl, hg]
  refine wp_istore_n (l' := [_, some _]) dX8_saws_11 rfl rfl ?_
  refine wp_aload_n dX8_saws_12 rfl rfl ?_
  refine wp_iload_n dX8_saws_13 rfl rfl ?_
  refine wp_iconst (v := 3) dX8_saws_14 (by decide) rfl ?_
  refine wn_callV2d dX8_saws_15 rRX8_93 (rcv_of o40 rfl) (Nat.le_of_ble_eq_true rfl) rfl rfl (Nat.le_of_ble_eq_true rfl) rfl (c8_of (w := 3) hlt (by decide)) ?_
  refine wp_bipush (v := 12) dX8_saws_18 (by decide) rfl ?_
  refine wp_icmp_ge (t := 57) dX8_saws_20 rfl rfl (fun h20 => ?_) (fun h20 => ?_)
  · refine wp_ret dX8_saws_57 rfl ?_
    refine ⟨_, rfl, rfl, ?_, ?_⟩
    · unfold swg
      dsimp only
      rw [hgn]
      rw [if_neg (by simp only [sI_row] at h20; exact Int32.not_lt.mpr h20), sI_row]
    · exact Fr.rf.pt (by decide)
  · refine wp_aload_n dX8_saws_23 rfl rfl ?_
    refine wn_callV0d dX8_saws_24 rRX8_129 (rcv_of o40 rfl) (Nat.le_of_ble_eq_true rfl)  (Nat.le_of_ble_eq_true rfl) rfl (c8_draw) ?_
    refine wp_bipush (v := 100) dX8_saws_27 (by decide) rfl ?_
    refine wp_irem dX8_saws_29 (by decide) rfl ?_
    rw [show ∀ x y : Int32, x - x / y * y = rm x y from fun _ _ => rfl]
    refine wp_aload_n dX8_saws_30 rfl rfl ?_
    refine wp_iload_n dX8_saws_31 rfl rfl ?_
    refine wn_callV1d dX8_saws_32 rRX8_110 (rcv_of o40 rfl) (Nat.le_of_ble_eq_true rfl) rfl (Nat.le_of_ble_eq_true rfl) rfl (c8_claimed hlt) ?_
    refine wp_icmp_ge (t := 57) dX8_saws_35 rfl rfl (fun h35 => ?_) (fun h35 => ?_)
    · refine wp_ret dX8_saws_57 rfl ?_
      refine ⟨_, rfl, rfl, ?_, ?_⟩
      · unfold swg
        dsimp only
        rw [hgn]
        rw [if_pos (by simp only [sI_row] at h20; exact Int32.not_le.mp h20)]
        rw [if_neg (by simp only [sI_row, upd_eq] at h35 ⊢; exact Int32.not_lt.mpr h35)]
        simp only [sI_row, upd_eq]
      · exact (Fr.rf.pt (by decide)).pt (by decide)
    · refine wp_aload_n dX8_saws_38 rfl rfl ?_
      refine wp_iload_n dX8_saws_39 rfl rfl ?_
      refine wp_iconst (v := 3) dX8_saws_40 (by decide) rfl ?_
      refine wp_bipush (v := 13) dX8_saws_41 (by decide) rfl ?_
      refine wn_callV3n dX8_saws_43 rRX8_79 (rcv_of o40 rfl) (Nat.le_of_ble_eq_true rfl) rfl rfl rfl (Nat.le_of_ble_eq_true rfl) rfl (c8_put (w := 3) hlt (by decide)) (fun s43 hq43 => ?_)
      subst hq43
      refine wp_aload_n dX8_saws_46 rfl rfl ?_
      refine wn_getR dX8_saws_47 fRX8_9 o40 rfl rfl rfl ?_
      refine wp_bipush (v := 6) dX8_saws_50 (by decide) rfl ?_
      refine wp_dup2 dX8_saws_52 rfl rfl rfl ?_
      refine wn_iald (j := 6) dX8_saws_53 (o41 0 rfl) rfl ⟨by decide, by decide⟩ (Nat.le_of_ble_eq_true rfl) rfl ?_
      refine wp_iconst (v := 1) dX8_saws_54 (by decide) rfl ?_
      refine wp_iadd dX8_saws_55 rfl ?_
      refine wn_iast (j := 6) dX8_saws_56 (o41 0 rfl) rfl ⟨by decide, by decide⟩ (Nat.le_of_ble_eq_true rfl) rfl ?_
      refine wp_ret dX8_saws_57 rfl ?_
      refine ⟨_, rfl, rfl, ?_, ?_⟩
      · unfold swg
        dsimp only
        rw [hgn]
        rw [if_pos (by simp only [sI_row] at h20; exact Int32.not_le.mp h20)]
        rw [if_pos (by simp only [sI_row, upd_eq] at h35 ⊢; exact Int32.not_le.mp h35)]
        simp only [sI_row, upd_eq]
        rw [upd_ne (show (6 : Nat) ≠ 45 + 5 * (k1 % c) + 3 by omega)]
      · exact (((Fr.rf.pt (by decide)).pt (by decide)).pt (by decide)).pt (by decide)
end
