/-! THE PURE PART, 7: the reference's small methods -/
theorem ind_up {c : Nat} {Q : Nat → Prop} (h : ∀ j, j ≤ c → (j < c → Q (j + 1)) → Q j) : ∀ j, j ≤ c → Q j := by
  have key : ∀ m j, j ≤ c → c - j = m → Q j := by
    intro m
    induction m with
    | zero => intro j hj hm; exact h j hj (fun hl => by omega)
    | succ m ih => intro j hj hm; exact h j hj (fun hl => ih (j + 1) (by omega) (by omega))
  exact fun j hj => key (c - j) j hj rfl
theorem nIx {k : Nat} {x : Int32} (e : x = nI k) (h : k < 2 ^ 31) : 0 ≤ x ∧ x.toNatClampNeg = k := by
  subst e; exact ⟨nI_pos' h, nI_clamp h⟩
theorem ix_l {j w : Nat} : (45 : Int32) + 5 * nI j + nI w = nI (45 + 5 * j + w) := by
  rw [show (45 : Int32) = nI 45 from rfl, show (5 : Int32) = nI 5 from rfl, pk_mul, nI_add, nI_add]
theorem ix_t {t : Nat} : (105 : Int32) + 2 * nI t = nI (105 + 2 * t) := by
  rw [show (105 : Int32) = nI 105 from rfl, show (2 : Int32) = nI 2 from rfl, pk_mul, nI_add]
section
variable {d : Nat} {s : Sn}
theorem c8_isLog {g : Int32} : Ca (d + 1) MX8_isLog [vR 40 0 0, vI g] (hN s) (Pd (bI (0 ≤ g ∧ g ≤ s.1 (41, 0, 0) 1 - 1)) s) := by
  change Wp _ _ 0 [some _, some _] [] _ _
  refine wp_iload_n dX8_isLog_0 rfl rfl ?_
  refine wp_iconst (v := 0) dX8_isLog_1 (by decide) rfl ?_
  refine wp_aload_n dX8_isLog_2 rfl rfl ?_
  refine wn_getR dX8_isLog_3 fRX8_9 o40 rfl rfl rfl ?_
  refine wp_iconst (v := 1) dX8_isLog_6 (by decide) rfl ?_
  refine wn_iald (j := 1) dX8_isLog_7 (o41 0 rfl) rfl ⟨by decide, by decide⟩ (Nat.le_of_ble_eq_true rfl) rfl ?_
  refine wp_iconst (v := 1) dX8_isLog_8 (by decide) rfl ?_
  refine wp_isub dX8_isLog_9 rfl ?_
  refine wn_callS3d dX8_isLog_10 rRX8_75 (Nat.le_of_ble_eq_true rfl) rfl rfl rfl (Nat.le_of_ble_eq_true rfl) rfl (c8_in) ?_
  refine wp_bret dX8_isLog_13 rfl ?_
  exact Pd.mk
theorem c8_of {j w : Nat} (hj : j < 12) (hw : w < 5) : Ca d MX8_of [vR 40 0 0, vI (nI j), vI (nI w)] (hN s) (Pd (s.1 (41, 0, 0) (45 + 5 * j + w)) s) := by
  change Wp _ _ 0 [some _, some _, some _] [] _ _
  refine wp_aload_n dX8_of_0 rfl rfl ?_
  refine wn_getR dX8_of_1 fRX8_9 o40 rfl rfl rfl ?_
  refine wp_bipush (v := 45) dX8_of_4 (by decide) rfl ?_
  refine wp_iconst (v := 5) dX8_of_6 (by decide) rfl ?_
  refine wp_iload_n dX8_of_7 rfl rfl ?_
  refine wp_imul dX8_of_8 rfl ?_
  refine wp_iadd dX8_of_9 rfl ?_
  refine wp_iload_n dX8_of_10 rfl rfl ?_
  refine wp_iadd dX8_of_11 rfl ?_
  refine wn_iald dX8_of_12 (o41 0 rfl) rfl (nIx ix_l (by omega)) (by show _ < 1477; omega) rfl ?_
  refine wp_iret dX8_of_13 rfl rfl ?_
  exact Pd.mk
theorem c8_put {j w : Nat} {v : Int32} (hj : j < 12) (hw : w < 5) : Ca d MX8_put [vR 40 0 0, vI (nI j), vI (nI w), vI v] (hN s) (Pn fun t => t = sI s (41, 0, 0) (45 + 5 * j + w) v) := by
  change Wp _ _ 0 [some _, some _, some _, some _] [] _ _
  refine wp_aload_n dX8_put_0 rfl rfl ?_
  refine wn_getR dX8_put_1 fRX8_9 o40 rfl rfl rfl ?_
  refine wp_bipush (v := 45) dX8_put_4 (by decide) rfl ?_
  refine wp_iconst (v := 5) dX8_put_6 (by decide) rfl ?_
  refine wp_iload_n dX8_put_7 rfl rfl ?_
  refine wp_imul dX8_put_8 rfl ?_
  refine wp_iadd dX8_put_9 rfl ?_
  refine wp_iload_n dX8_put_10 rfl rfl ?_
  refine wp_iadd dX8_put_11 rfl ?_
  refine wp_iload_n dX8_put_12 rfl rfl ?_
  refine wn_iast dX8_put_13 (o41 0 rfl) rfl (nIx ix_l (by omega)) (by show _ < 1477; omega) rfl ?_
  refine wp_ret dX8_put_14 rfl ?_
  exact ⟨_, rfl, rfl, rfl⟩
theorem c8_becomes {k : Nat} {v : Int32} (hk : k < 1477) : Ca d MX8_becomes [vR 40 0 0, vI (nI k), vI v] (hN s) (Pd (s.1 (41, 0, 0) k) (sI s (41, 0, 0) k v)) := by
  change Wp _ _ 0 [some _, some _, some _, none] [] _ _
  refine wp_aload_n dX8_becomes_0 rfl rfl ?_
  refine wn_getR dX8_becomes_1 fRX8_9 o40 rfl rfl rfl ?_
  refine wp_iload_n dX8_becomes_4 rfl rfl ?_
  refine wn_iald dX8_becomes_5 (o41 0 rfl) rfl (nIx rfl (by omega)) (by show _ < 1477; omega) rfl ?_
  refine wp_istore_n (l' := [_, _, _, some _]) dX8_becomes_6 rfl rfl ?_
  refine wp_aload_n dX8_becomes_7 rfl rfl ?_
  refine wn_getR dX8_becomes_8 fRX8_9 o40 rfl rfl rfl ?_
  refine wp_iload_n dX8_becomes_11 rfl rfl ?_
  refine wp_iload_n dX8_becomes_12 rfl rfl ?_
  refine wn_iast dX8_becomes_13 (o41 0 rfl) rfl (nIx rfl (by omega)) (by show _ < 1477; omega) rfl ?_
  refine wp_iload_n dX8_becomes_14 rfl rfl ?_
  refine wp_iret dX8_becomes_15 rfl rfl ?_
  exact Pd.mk
def cmf (f : Fl) (c : Nat) (k l m : Int32) : Fl := upd (upd (upd (upd (upd (upd f 1 (nI (c + 1))) (45 + 5 * c + 0) k) (45 + 5 * c + 1) l) (45 + 5 * c + 2) m) (45 + 5 * c + 3) 0) (45 + 5 * c + 4) 0
theorem c8_comes {c : Nat} {k l m : Int32} (hc : c < 12) (h1 : s.1 (41, 0, 0) 1 = nI c) : Ca (d + 1) MX8_comes [vR 40 0 0, vI k, vI l, vI m] (hN s) (Pv fun x t => x = nI c ∧ t.1 (41, 0, 0) = cmf (s.1 (41, 0, 0)) c k l m ∧ Fr [(41, 0, 0)] s t) := by
  change Wp _ _ 0 [some _, some _, some _, some _, none] [] _ _
  refine wp_aload_n dX8_comes_0 rfl rfl ?_
  refine wn_getR dX8_comes_1 fRX8_9 o40 rfl rfl rfl ?_
  refine wp_iconst (v := 1) dX8_comes_4 (by decide) rfl ?_
  refine wn_iald (j := 1) dX8_comes_5 (o41 0 rfl) rfl ⟨by decide, by decide⟩ (Nat.le_of_ble_eq_true rfl) rfl ?_
  rw [h1]
  refine wp_istore (l' := [_, _, _, _, some _]) dX8_comes_6 rfl rfl ?_
  refine wp_aload_n dX8_comes_8 rfl rfl ?_
  refine wn_getR dX8_comes_9 fRX8_9 o40 rfl rfl rfl ?_
  refine wp_iconst (v := 1) dX8_comes_12 (by decide) rfl ?_
  refine wp_dup2 dX8_comes_13 rfl rfl rfl ?_
  refine wn_iald (j := 1) dX8_comes_14 (o41 0 rfl) rfl ⟨by decide, by decide⟩ (Nat.le_of_ble_eq_true rfl) rfl ?_
  rw [h1]
  refine wp_iconst (v := 1) dX8_comes_15 (by decide) rfl ?_
  refine wp_iadd dX8_comes_16 rfl ?_
  rw [nI_1]
  refine wn_iast (j := 1) dX8_comes_17 (o41 0 rfl) rfl ⟨by decide, by decide⟩ (Nat.le_of_ble_eq_true rfl) rfl ?_
  refine wp_aload_n dX8_comes_18 rfl rfl ?_
  refine wp_iload dX8_comes_19 rfl rfl ?_
  refine wp_iconst (v := 0) dX8_comes_21 (by decide) rfl ?_
  refine wp_iload_n dX8_comes_22 rfl rfl ?_
  refine wn_callV3n dX8_comes_23 rRX8_79 (rcv_of o40 rfl) (Nat.le_of_ble_eq_true rfl) rfl rfl rfl (Nat.le_of_ble_eq_true rfl) rfl (c8_put (w := 0) hc (by decide)) (fun s23 hq23 => ?_)
  subst hq23
  refine wp_aload_n dX8_comes_26 rfl rfl ?_
  refine wp_iload dX8_comes_27 rfl rfl ?_
  refine wp_iconst (v := 1) dX8_comes_29 (by decide) rfl ?_
  refine wp_iload_n dX8_comes_30 rfl rfl ?_
  refine wn_callV3n dX8_comes_31 rRX8_79 (rcv_of o40 rfl) (Nat.le_of_ble_eq_true rfl) rfl rfl rfl (Nat.le_of_ble_eq_true rfl) rfl (c8_put (w := 1) hc (by decide)) (fun s31 hq31 => ?_)
  subst hq31
  refine wp_aload_n dX8_comes_34 rfl rfl ?_
  refine wp_iload dX8_comes_35 rfl rfl ?_
  refine wp_iconst (v := 2) dX8_comes_37 (by decide) rfl ?_
  refine wp_iload_n dX8_comes_38 rfl rfl ?_
  refine wn_callV3n dX8_comes_39 rRX8_79 (rcv_of o40 rfl) (Nat.le_of_ble_eq_true rfl) rfl rfl rfl (Nat.le_of_ble_eq_true rfl) rfl (c8_put (w := 2) hc (by decide)) (fun s39 hq39 => ?_)
  subst hq39
  refine wp_aload_n dX8_comes_42 rfl rfl ?_
  refine wp_iload dX8_comes_43 rfl rfl ?_
  refine wp_iconst (v := 3) dX8_comes_45 (by decide) rfl ?_
  refine wp_iconst (v := 0) dX8_comes_46 (by decide) rfl ?_
  refine wn_callV3n dX8_comes_47 rRX8_79 (rcv_of o40 rfl) (Nat.le_of_ble_eq_true rfl) rfl rfl rfl (Nat.le_of_ble_eq_true rfl) rfl (c8_put (w := 3) hc (by decide)) (fun s47 hq47 => ?_)
  subst hq47
  refine wp_aload_n dX8_comes_50 rfl rfl ?_
  refine wp_iload dX8_comes_51 rfl rfl ?_
  refine wp_iconst (v := 4) dX8_comes_53 (by decide) rfl ?_
  refine wp_iconst (v := 0) dX8_comes_54 (by decide) rfl ?_
  refine wn_callV3n dX8_comes_55 rRX8_79 (rcv_of o40 rfl) (Nat.le_of_ble_eq_true rfl) rfl rfl rfl (Nat.le_of_ble_eq_true rfl) rfl (c8_put (w := 4) hc (by decide)) (fun s55 hq55 => ?_)
  subst hq55
  refine wp_iload dX8_comes_58 rfl rfl ?_
  refine wp_iret dX8_comes_60 rfl rfl ?_
  refine ⟨_, _, rfl, rfl, rfl, ?_, ?_⟩
  · simp only [sI_row]; rfl
  · repeat (first | exact Fr.rf | refine Fr.pt ?_ (by decide))
theorem c8_draw : Ca d MX8_draw [vR 40 0 0] (hN s) (Pd (dv (dz (s.1 (41, 0, 0) 0))) (sI s (41, 0, 0) 0 (dz (s.1 (41, 0, 0) 0)))) := by
  change Wp _ _ 0 [some _] [] _ _
  refine wp_aload_n dX8_draw_0 rfl rfl ?_
  refine wn_getR dX8_draw_1 fRX8_9 o40 rfl rfl rfl ?_
  refine wp_iconst (v := 0) dX8_draw_4 (by decide) rfl ?_
  refine wp_aload_n dX8_draw_5 rfl rfl ?_
  refine wn_getR dX8_draw_6 fRX8_9 o40 rfl rfl rfl ?_
  refine wp_iconst (v := 0) dX8_draw_9 (by decide) rfl ?_
  refine wn_iald (j := 0) dX8_draw_10 (o41 0 rfl) rfl ⟨by decide, by decide⟩ (Nat.le_of_ble_eq_true rfl) rfl ?_
  refine wp_ldc dX8_draw_11 kRX8_128 rfl ?_
  refine wp_imul dX8_draw_13 rfl ?_
  refine wp_sipush (v := 12345) dX8_draw_14 (by decide) rfl ?_
  refine wp_iadd dX8_draw_17 rfl ?_
  refine wn_iast (j := 0) dX8_draw_18 (o41 0 rfl) rfl ⟨by decide, by decide⟩ (Nat.le_of_ble_eq_true rfl) rfl ?_
  refine wp_aload_n dX8_draw_19 rfl rfl ?_
  refine wn_getR dX8_draw_20 fRX8_9 o40 rfl rfl rfl ?_
  refine wp_iconst (v := 0) dX8_draw_23 (by decide) rfl ?_
  refine wn_iald (j := 0) dX8_draw_24 (o41 0 rfl) rfl ⟨by decide, by decide⟩ (Nat.le_of_ble_eq_true rfl) rfl ?_
  rw [sI_eq]
  refine wp_bipush (v := 8) dX8_draw_25 (by decide) rfl ?_
  refine wp_iushr dX8_draw_27 rfl ?_
  refine wp_iret dX8_draw_28 rfl rfl ?_
  exact Pd.mk
theorem l8_manyAt {c : Nat} {r : Int32} (hc12 : c ≤ 12) (hc : s.1 (41, 0, 0) 1 = nI c) : ∀ j, j ≤ c → Wp (d + 1) MX8_manyAt 4 [some (vR 40 0 0), some (vI r), some (vI (nI (ctr (fun g => decide (s.1 (41, 0, 0) (45 + 5 * g + 3) = r)) j))), some (vI (nI j))] [] (hN s) (Pd (nI (ctr (fun g => decide (s.1 (41, 0, 0) (45 + 5 * g + 3) = r)) c)) s) := by
  refine ind_up (fun j hj ih => ?_)
  refine wp_iload_n dX8_manyAt_4 rfl rfl ?_
  refine wp_aload_n dX8_manyAt_5 rfl rfl ?_
  refine wn_getR dX8_manyAt_6 fRX8_9 o40 rfl rfl rfl ?_
  refine wp_iconst (v := 1) dX8_manyAt_9 (by decide) rfl ?_
  refine wn_iald (j := 1) dX8_manyAt_10 (o41 0 rfl) rfl ⟨by decide, by decide⟩ (Nat.le_of_ble_eq_true rfl) rfl ?_
  rw [hc]
  refine wp_icmp_ge (t := 38) dX8_manyAt_11 rfl rfl (fun h11 => ?_) (fun h11 => ?_)
  · refine wp_iload_n dX8_manyAt_38 rfl rfl ?_
    refine wp_iret dX8_manyAt_39 rfl rfl ?_
    have e : j = c := by have := (nI_leI (by omega) (by omega)).mp h11; omega
    rw [e]
    exact Pd.mk
  · have hl : j < c := by have := mt (nI_leI (by omega) (by omega)).mpr h11; omega
    refine wp_iload_n dX8_manyAt_14 rfl rfl ?_
    refine wp_aload_n dX8_manyAt_15 rfl rfl ?_
    refine wp_iload_n dX8_manyAt_16 rfl rfl ?_
    refine wp_iconst (v := 3) dX8_manyAt_17 (by decide) rfl ?_
    refine wn_callV2d dX8_manyAt_18 rRX8_93 (rcv_of o40 rfl) (Nat.le_of_ble_eq_true rfl) rfl rfl (Nat.le_of_ble_eq_true rfl) rfl (c8_of (w := 3) (by omega) (by decide)) ?_
    refine wp_iload_n dX8_manyAt_21 rfl rfl ?_
    refine wp_icmp_ne (t := 29) dX8_manyAt_22 rfl rfl (fun h22 => ?_) (fun h22 => ?_)
    · refine wp_iconst (v := 0) dX8_manyAt_29 (by decide) rfl ?_
      refine wp_iadd dX8_manyAt_30 rfl ?_
      refine wp_istore_n (l' := [_, _, some _, _]) dX8_manyAt_31 rfl rfl ?_
      refine wp_iinc (l' := [_, _, _, some _]) (v := 1) dX8_manyAt_32 rfl (by decide) rfl rfl ?_
      refine wp_goto (t := 4) dX8_manyAt_35 rfl ?_
      have e2 : ctr (fun g => decide (s.1 (41, 0, 0) (45 + 5 * g + 3) = r)) (j + 1) = ctr (fun g => decide (s.1 (41, 0, 0) (45 + 5 * g + 3) = r)) j + 0 := by rw [ctr, if_neg (by rw [decide_eq_true_eq]; exact h22)]
      rw [show (0 : Int32) = nI 0 from rfl, nI_add, nI_1, ← e2]
      exact ih hl
    · refine wp_iconst (v := 1) dX8_manyAt_25 (by decide) rfl ?_
      refine wp_goto (t := 30) dX8_manyAt_26 rfl ?_
      refine wp_iadd dX8_manyAt_30 rfl ?_
      refine wp_istore_n (l' := [_, _, some _, _]) dX8_manyAt_31 rfl rfl ?_
      refine wp_iinc (l' := [_, _, _, some _]) (v := 1) dX8_manyAt_32 rfl (by decide) rfl rfl ?_
      refine wp_goto (t := 4) dX8_manyAt_35 rfl ?_
      have e2 : ctr (fun g => decide (s.1 (41, 0, 0) (45 + 5 * g + 3) = r)) (j + 1) = ctr (fun g => decide (s.1 (41, 0, 0) (45 + 5 * g + 3) = r)) j + 1 := by rw [ctr, if_pos (decide_eq_true h22)]
      rw [nI_1, nI_1, ← e2]
      exact ih hl
theorem c8_manyAt {c : Nat} {r : Int32} (hc12 : c ≤ 12) (hc : s.1 (41, 0, 0) 1 = nI c) : Ca (d + 1) MX8_manyAt [vR 40 0 0, vI r] (hN s) (Pd (nI (mny (s.1 (41, 0, 0)) r)) s) := by
  change Wp _ _ 0 [some _, some _, none, none] [] _ _
  have e0 : mny (s.1 (41, 0, 0)) r = ctr (fun g => decide (s.1 (41, 0, 0) (45 + 5 * g + 3) = r)) c := by unfold mny cn; rw [hc, nI_clamp (by omega)]
  rw [e0]
  refine wp_iconst (v := 0) dX8_manyAt_0 (by decide) rfl ?_
  refine wp_istore_n (l' := [_, _, some _, _]) dX8_manyAt_1 rfl rfl ?_
  refine wp_iconst (v := 0) dX8_manyAt_2 (by decide) rfl ?_
  refine wp_istore_n (l' := [_, _, _, some _]) dX8_manyAt_3 rfl rfl ?_
  exact l8_manyAt hc12 hc 0 (Nat.zero_le _)
theorem m1_sub (x : Int32) : x + (-1) = x - 1 := (Int32.sub_eq_add_neg x 1).symm
theorem l8_counts {key : Int32} : ∀ j, j ≤ 14 → Wp d MX8_counts 10 [some (vR 40 0 0), some (vI key), some (vI (nI j - 1))] [] (hN s) (Pd (oI (cts (s.1 (41, 0, 0)) key j)) s) := by
  intro j
  induction j with
  | zero =>
    intro _
    rw [show nI 0 - 1 = -1 from by decide]
    refine wp_iload_n dX8_counts_10 rfl rfl ?_
    refine wp_if_lt (t := 41) dX8_counts_11 rfl rfl (fun h11 => ?_) (fun h11 => absurd (by decide) h11)
    refine wp_iconst (v := (-1)) dX8_counts_41 (by decide) rfl ?_
    refine wp_iret dX8_counts_42 rfl rfl ?_
    exact Pd.mk
  | succ j ih =>
    intro hj
    rw [nI_pred]
    refine wp_iload_n dX8_counts_10 rfl rfl ?_
    refine wp_if_lt (t := 41) dX8_counts_11 rfl rfl (fun h11 => absurd h11 (nI_pos (by omega))) (fun h11 => ?_)
    refine wp_aload_n dX8_counts_14 rfl rfl ?_
    refine wn_getR dX8_counts_15 fRX8_9 o40 rfl rfl rfl ?_
    refine wp_bipush (v := 105) dX8_counts_18 (by decide) rfl ?_
    refine wp_iconst (v := 2) dX8_counts_20 (by decide) rfl ?_
    refine wp_iload_n dX8_counts_21 rfl rfl ?_
    refine wp_imul dX8_counts_22 rfl ?_
    refine wp_iadd dX8_counts_23 rfl ?_
    refine wn_iald dX8_counts_24 (o41 0 rfl) rfl (nIx ix_t (by omega)) (by show _ < 1477; omega) rfl ?_
    refine wp_sipush (v := 1000) dX8_counts_25 (by decide) rfl ?_
    refine wp_idiv dX8_counts_28 (by decide) rfl ?_
    refine wp_iload_n dX8_counts_29 rfl rfl ?_
    refine wp_icmp_ne (t := 35) dX8_counts_30 rfl rfl (fun h30 => ?_) (fun h30 => ?_)
    · refine wp_iinc (l' := [_, _, some _]) (v := (-1)) dX8_counts_35 rfl (by decide) rfl rfl ?_
      refine wp_goto (t := 10) dX8_counts_38 rfl ?_
      rw [cts, if_neg h30, m1_sub]
      exact ih (by omega)
    · refine wp_iload_n dX8_counts_33 rfl rfl ?_
      refine wp_iret dX8_counts_34 rfl rfl ?_
      rw [cts, if_pos h30]
      exact Pd.mk
theorem c8_counts {c : Nat} {key : Int32} (hc : c ≤ 14) (h8 : s.1 (41, 0, 0) 8 = nI c) : Ca d MX8_counts [vR 40 0 0, vI key] (hN s) (Pd (oI (cts (s.1 (41, 0, 0)) key c)) s) := by
  change Wp _ _ 0 [some _, some _, none] [] _ _
  refine wp_aload_n dX8_counts_0 rfl rfl ?_
  refine wn_getR dX8_counts_1 fRX8_9 o40 rfl rfl rfl ?_
  refine wp_bipush (v := 8) dX8_counts_4 (by decide) rfl ?_
  refine wn_iald (j := 8) dX8_counts_6 (o41 0 rfl) rfl ⟨by decide, by decide⟩ (Nat.le_of_ble_eq_true rfl) rfl ?_
  rw [h8]
  refine wp_iconst (v := 1) dX8_counts_7 (by decide) rfl ?_
  refine wp_isub dX8_counts_8 rfl ?_
  refine wp_istore_n (l' := [_, _, some _]) dX8_counts_9 rfl rfl ?_
  exact l8_counts c hc
end
