/-! THE PURE PART, 82: a law is made -/
section
variable {d : Nat}
theorem cX_hold {σ : St} {v a b : Int32} : Ca (d + 1) MX7_hold [vI v, vI a, vI b] σ (fun y t => y = some (vI (hld v a b)) ∧ t = σ) := by
  change Wp _ _ 0 [some _, some _, some _] [] _ _
  refine wp_iload_n dX7_hold_0 rfl rfl ?_
  refine wp_iload_n dX7_hold_1 rfl rfl ?_
  refine wp_iload_n dX7_hold_2 rfl rfl ?_
  refine wp_min dX7_hold_3 rRX7_149 (by omega) (Nat.le_of_ble_eq_true rfl) rfl ?_
  refine wp_max dX7_hold_6 rRX7_328 (by omega) (Nat.le_of_ble_eq_true rfl) rfl ?_
  refine wp_iret dX7_hold_9 rfl rfl ?_
  exact ⟨rfl, rfl⟩
theorem okL {x : Sx} {n t : Nat} (ht : t = 34 ∨ t = 35 ∨ t = 36) (h : 135 + 3 * n + (t - 34) < x.2.2.2.1) : okr (hs x) (t, n, 0) = true := by
  unfold okr
  simp only [Bool.and_eq_true, decide_eq_true_eq]
  rcases ht with e | e | e <;> subst e
  · exact ⟨by decide, by show 135 + 3 * n < x.2.2.2.1; omega, (qmk_law n).1⟩
  · exact ⟨by decide, by show 136 + 3 * n < x.2.2.2.1; omega, (qmk_law n).2.1⟩
  · exact ⟨by decide, by show 137 + 3 * n < x.2.2.2.1; omega, (qmk_law n).2.2⟩
theorem okC {x : Sx} {r : Rf} (h : (decide (5 ≤ r.1) && (decide (qoff r < 135) && decide (qmk (qoff r) = r))) = true) (hx : 135 ≤ x.2.2.2.1) : okr (hs x) r = true := by
  simp only [Bool.and_eq_true, decide_eq_true_eq] at h
  unfold okr
  simp only [Bool.and_eq_true, decide_eq_true_eq]
  exact ⟨h.1, Nat.lt_of_lt_of_le h.2.1 hx, h.2.2⟩
/-- a law more -/
def mkL (s : Sn) (key p : Int32) (c : Nat) : Sn := (fun z j => if z = (34, s.2.2.2.1, 0) then (if j = 0 then key else if j = 1 then p else 0) else if z = (35, s.2.2.2.1, 0) then (if j < c then s.1 (23, 0, 0) j else 0) else if z = (36, s.2.2.2.1, 0) then 0 else s.1 z j, s.2.1, (s.2.2.1.1, fun a => if a = s.2.2.2.1 then c else s.2.2.1.2 a), s.2.2.2.1 + 1, s.2.2.2.2 + 4 + c + max 1 c)
theorem hld_c {c : Nat} (hc : c ≤ 96) : hld (nI c) 0 (nI 96) = nI c := by
  unfold hld
  by_cases e : c < 96
  · rw [if_pos ((nI_ltI (by omega) (by decide)).mpr e)]
    by_cases e0 : c = 0
    · subst e0; rfl
    · rw [if_pos (show (0 : Int32) < nI c from (nI_ltI (a := 0) (by decide) (by omega)).mpr (by omega))]
  · have : c = 96 := by omega
    subst this
    rfl
theorem max_c {c : Nat} (hc : c ≤ 96) : (if (1 : Int32) < nI c then nI c else 1) = nI (max 1 c) := by
  by_cases e : 1 < c
  · rw [if_pos (show (1 : Int32) < nI c from (nI_ltI (a := 1) (by decide) (by omega)).mpr e), show max 1 c = c by omega]
  · rw [if_neg (show ¬ (1 : Int32) < nI c from fun q => e ((nI_ltI (a := 1) (by decide) (by omega)).mp q)), show max 1 c = 1 by omega]
    rfl
def lX1 (s : Sn) : Sx := nwX (nm s) 0 4
def lX2 (s : Sn) (key p : Int32) : Sx := pI (pI (lX1 s) (34, s.2.2.2.1, 0) 0 key) (34, s.2.2.2.1, 0) 1 p
def lX3 (s : Sn) (key p : Int32) (c : Nat) : Sx := nwX (lX2 s key p) c c
def lX4 (s : Sn) (key p : Int32) (c : Nat) : Sx := pR (lX3 s key p c) (34, s.2.2.2.1, 0) 2 (some (35, s.2.2.2.1, 0))
def lX5 (s : Sn) (key p : Int32) (c : Nat) : Sx := pA (lX4 s key p c) (35, s.2.2.2.1, 0) (va_cpy ((lX4 s key p c).1 (23, 0, 0)) ((lX4 s key p c).1 (35, s.2.2.2.1, 0)) 0 0 c)
def lX6 (s : Sn) (key p : Int32) (c : Nat) : Sx := nwX (lX5 s key p c) (max 1 c) (max 1 c)
def lX7 (s : Sn) (key p : Int32) (c : Nat) : Sx := pR (lX6 s key p c) (34, s.2.2.2.1, 0) 3 (some (36, s.2.2.2.1, 0))
theorem c0_init {s : Sn} {key p : Int32} {c : Nat} (hc : c ≤ 96) : Ca (d + 2) MX0_init [vR 34 s.2.2.2.1 0, vI key, vI p, vR 23 0 0, vI (nI c)] (hs (lX1 s)) (fun v σ => v = none ∧ σ = hs (lX7 s key p c)) := by
  have hq1 := (qmk_law s.2.2.2.1).1
  have hq2 : qmk (lX2 s key p).2.2.2.1 = (35, s.2.2.2.1, 0) := by show qmk (135 + 3 * s.2.2.2.1 + 1) = _; rw [show 135 + 3 * s.2.2.2.1 + 1 = 136 + 3 * s.2.2.2.1 by omega]; exact (qmk_law s.2.2.2.1).2.1
  have hq3 : qmk (lX5 s key p c).2.2.2.1 = (36, s.2.2.2.1, 0) := by show qmk (135 + 3 * s.2.2.2.1 + 1 + 1) = _; rw [show 135 + 3 * s.2.2.2.1 + 1 + 1 = 137 + 3 * s.2.2.2.1 by omega]; exact (qmk_law s.2.2.2.1).2.2
  change Wp _ _ 0 [some _, some _, some _, some _, some _, none] [] _ _
  refine wp_aload_n dX0_init_0 rfl rfl ?_
  refine wp_objInit dX0_init_1 rRX0_3 (show 5 ≤ 34 by decide) (by omega) (Nat.le_of_ble_eq_true rfl) rfl ?_
  refine wp_aload_n dX0_init_4 rfl rfl ?_
  refine wp_iload_n dX0_init_5 rfl rfl ?_
  refine wp_putI dX0_init_6 fRX0_9 (okL (Or.inl rfl) (by show 135 + 3 * s.2.2.2.1 + 0 < 135 + 3 * s.2.2.2.1 + 1; omega)) rfl rfl rfl ?_
  refine wp_aload_n dX0_init_9 rfl rfl ?_
  refine wp_iload_n dX0_init_10 rfl rfl ?_
  refine wp_putI dX0_init_11 fRX0_15 (okL (Or.inl rfl) (by show 135 + 3 * s.2.2.2.1 + 0 < 135 + 3 * s.2.2.2.1 + 1; omega)) rfl rfl rfl ?_
  change Wp _ _ _ _ _ (hs (lX2 s key p)) _
  refine wp_iload dX0_init_14 rfl rfl ?_
  refine wp_iconst (v := 0) dX0_init_16 (by decide) rfl ?_
  refine wp_aload_n dX0_init_17 rfl rfl ?_
  refine wp_alen (n := 96) dX0_init_18 (by rw [okC (by decide +kernel) (by show 135 ≤ 135 + 3 * s.2.2.2.1 + 1; omega)]; rfl) rfl (by
    show (if ((23, 0, 0) : Rf) = qmk (135 + 3 * s.2.2.2.1) then 0 else lnf s.2.2.1 (23, 0, 0)) = 96
    rw [hq1, if_neg (fun z => absurd (congrArg Prod.fst z) (by show ¬ 23 = 34; omega))]
    rfl) rfl ?_
  refine wp_callS3 dX0_init_19 rRX0_18 (Nat.le_of_ble_eq_true rfl) rfl rfl rfl (Nat.le_of_ble_eq_true rfl) rfl cX_hold (fun v σ1 hv => ?_)
  obtain ⟨rfl, rfl⟩ := hv
  rw [hld_c hc]
  refine wp_istore (l' := [_, _, _, _, _, some _]) dX0_init_22 rfl rfl ?_
  refine wp_aload_n dX0_init_24 rfl rfl ?_
  refine wp_iload dX0_init_25 rfl rfl ?_
  refine wp_newarr (N := c) dX0_init_27 (by decide) (by rw [hq2]; rfl) ⟨nI_pos' (by omega), nI_clamp (by omega)⟩ (by omega) (by decide +kernel) (by rw [hq2]; rfl) rfl ?_
  rw [hq2]
  refine wp_putR dX0_init_29 fRX0_22 (okL (Or.inl rfl) (by show 135 + 3 * s.2.2.2.1 + 0 < 135 + 3 * s.2.2.2.1 + 1 + 1; omega)) rfl rfl rfl ?_
  change Wp _ _ _ _ _ (hs (lX4 s key p c)) _
  refine wp_aload_n dX0_init_32 rfl rfl ?_
  refine wp_iconst (v := 0) dX0_init_33 (by decide) rfl ?_
  refine wp_aload_n dX0_init_34 rfl rfl ?_
  refine wp_getR (o := some (35, s.2.2.2.1, 0)) dX0_init_35 fRX0_22 (okL (Or.inl rfl) (by show 135 + 3 * s.2.2.2.1 + 0 < 135 + 3 * s.2.2.2.1 + 1 + 1; omega)) rfl (if_pos ⟨rfl, rfl⟩) rfl ?_
  refine wp_iconst (v := 0) dX0_init_38 (by decide) rfl ?_
  refine wp_iload dX0_init_39 rfl rfl ?_
  refine wp_acopy (N := c) (D := 0) (S := 0) dX0_init_41 rRX0_26 (okL (Or.inr (Or.inl rfl)) (by show 135 + 3 * s.2.2.2.1 + 1 < 135 + 3 * s.2.2.2.1 + 1 + 1; omega)) (okC (by decide +kernel) (by show 135 ≤ 135 + 3 * s.2.2.2.1 + 1 + 1; omega)) rfl rfl ⟨nI_pos' (by omega), nI_clamp (by omega)⟩ ⟨by decide, by decide⟩ ⟨by decide, by decide⟩ (by
    show 0 + c ≤ (if ((23, 0, 0) : Rf) = qmk (lX2 s key p).2.2.2.1 then c else if ((23, 0, 0) : Rf) = qmk (135 + 3 * s.2.2.2.1) then 0 else lnf s.2.2.1 (23, 0, 0))
    rw [hq2, hq1, if_neg (fun z => absurd (congrArg Prod.fst z) (by show ¬ 23 = 35; omega)), if_neg (fun z => absurd (congrArg Prod.fst z) (by show ¬ 23 = 34; omega))]
    show 0 + c ≤ 96
    omega) (by
    show 0 + c ≤ (if ((35, s.2.2.2.1, 0) : Rf) = qmk (lX2 s key p).2.2.2.1 then c else _)
    rw [hq2, if_pos rfl]
    omega) (by omega) (Nat.le_of_ble_eq_true rfl) rfl ?_
  change Wp _ _ _ _ _ (hs (lX5 s key p c)) _
  refine wp_aload_n dX0_init_44 rfl rfl ?_
  refine wp_iconst (v := 1) dX0_init_45 (by decide) rfl ?_
  refine wp_iload dX0_init_46 rfl rfl ?_
  refine wp_max dX0_init_48 rRX0_32 (by omega) (Nat.le_of_ble_eq_true rfl) rfl ?_
  rw [max_c hc]
  refine wp_newarr (N := max 1 c) dX0_init_51 (by decide) (by rw [hq3]; rfl) ⟨nI_pos' (by omega), nI_clamp (by omega)⟩ (by omega) (by decide +kernel) (by rw [hq3]; rfl) rfl ?_
  rw [hq3]
  refine wp_putR dX0_init_53 fRX0_38 (okL (Or.inl rfl) (by show 135 + 3 * s.2.2.2.1 + 0 < 135 + 3 * s.2.2.2.1 + 1 + 1 + 1; omega)) rfl rfl rfl ?_
  refine wp_ret dX0_init_56 rfl ?_
  exact ⟨rfl, rfl⟩
end
