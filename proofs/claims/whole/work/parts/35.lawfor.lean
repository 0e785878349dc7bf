section
variable {d i : Nat}
/-- a law by number, as the class keeps it -/
def lwa (s : Sn) (i : Nat) (x : Int32) : Option Rf := if (0 ≤ x ∧ x < s.1 (11, i, 0) 8) ∧ x < 14 then (s.2.1 i x.toNatClampNeg).map fun n => (34, n, 0) else none
theorem c3_lawAt {s : Sn} {x : Int32} (hi : i < 4) : Ca d MX3_lawAt [vR 11 i 0, vI x] (hN s) (Pr fun r t => r = lwa s i x ∧ t = s) := by
  change Wp _ _ 0 [some _, some _] [] _ _
  refine wp_iload_n dX3_lawAt_0 rfl rfl ?_
  refine wp_if_lt (t := 27) dX3_lawAt_1 rfl rfl (fun h1 => ?_) (fun h1 => ?_)
  · refine wp_null dX3_lawAt_27 rfl ?_
    refine wp_aret dX3_lawAt_28 rfl rfl ?_
    refine ⟨_, _, rfl, rfl, ?_, rfl⟩
    exact (if_neg (fun z => absurd z.1.1 (Int32.not_le.mpr h1))).symm
  · refine wp_iload_n dX3_lawAt_4 rfl rfl ?_
    refine wp_aload_n dX3_lawAt_5 rfl rfl ?_
    refine wn_getI dX3_lawAt_6 fRX3_43 (o11 hi) rfl rfl ?_
    refine wp_icmp_ge (t := 27) dX3_lawAt_9 rfl rfl (fun h9 => ?_) (fun h9 => ?_)
    · refine wp_null dX3_lawAt_27 rfl ?_
      refine wp_aret dX3_lawAt_28 rfl rfl ?_
      refine ⟨_, _, rfl, rfl, ?_, rfl⟩
      exact (if_neg (fun z => absurd z.1.2 (Int32.not_lt.mpr h9))).symm
    · refine wp_iload_n dX3_lawAt_12 rfl rfl ?_
      refine wp_bipush (v := 14) dX3_lawAt_13 (by decide) rfl ?_
      refine wp_icmp_ge (t := 27) dX3_lawAt_15 rfl rfl (fun h15 => ?_) (fun h15 => ?_)
      · refine wp_null dX3_lawAt_27 rfl ?_
        refine wp_aret dX3_lawAt_28 rfl rfl ?_
        refine ⟨_, _, rfl, rfl, ?_, rfl⟩
        exact (if_neg (fun z => absurd z.2 (Int32.not_lt.mpr h15))).symm
      · obtain ⟨k, hk, rfl⟩ := nI_of h1
        refine wp_aload_n dX3_lawAt_18 rfl rfl ?_
        refine wn_getR dX3_lawAt_19 fRX3_32 (o11 hi) rfl rfl rfl ?_
        refine wp_iload_n dX3_lawAt_22 rfl rfl ?_
        refine wn_aald18 dX3_lawAt_23 hi ⟨Int32.not_lt.mp h1, rfl⟩ (show _ < 14 by rw [nI_clamp hk]; have := mt (nI_leI (a := 14) (by omega) hk).mpr h15; omega) rfl ?_
        refine wp_goto (t := 28) dX3_lawAt_24 rfl ?_
        refine wp_aret dX3_lawAt_28 rfl rfl ?_
        refine ⟨_, _, rfl, rfl, ?_, rfl⟩
        exact (if_pos ⟨⟨Int32.not_lt.mp h1, Int32.not_le.mp h9⟩, Int32.not_le.mp h15⟩).symm
theorem lwa_in {s : Sn} {f : Fl} {c8 t n : Nat} (h8 : s.1 (11, i, 0) 8 = nI c8) (hc : c8 ≤ 14) (ht : t < c8) (hn : s.2.1 i t = some n) : lwa s i (nI t) = some (34, n, 0) := by
  unfold lwa
  rw [if_pos ⟨⟨nI_pos' (by omega), by rw [h8]; exact (nI_ltI (by omega) (by omega)).mpr ht⟩, (nI_ltI (b := 14) (by omega) (by omega)).mpr (by omega)⟩, nI_clamp (by omega), hn]
  rfl
/-- the number of the law that counts, as the class tells it -/
def oC (o : Option Nat) : Int32 := match o with
  | some t => nI t
  | none => -1000000005
theorem l3_lnf {s : Sn} {f : Fl} {c8 : Nat} {key : Int32} (hi : i < 4) (h8 : s.1 (11, i, 0) 8 = nI c8) (hc : c8 ≤ 14) (hL : LwR s i f c8) : ∀ m, m ≤ c8 → ∀ c3 : Option Av, Wp (d + 1) MX3_lawNumberFor 7 [some (vR 11 i 0), some (vI key), some (vI (nI m - 1)), c3] [] (hN s) (Pd (oC (cts f key m)) s) := by
  intro m
  induction m with
  | zero =>
    intro _ c3
    rw [show nI 0 - 1 = -1 from by decide]
    refine wp_iload_n dX3_lawNumberFor_7 rfl rfl ?_
    refine wp_if_lt (t := 37) dX3_lawNumberFor_8 rfl rfl (fun h8 => ?_) (fun h8 => absurd (by decide) h8)
    refine wp_ldc dX3_lawNumberFor_37 kRX3_111 rfl ?_
    refine wp_iret dX3_lawNumberFor_39 rfl rfl ?_
    exact Pd.mk
  | succ m ih =>
    intro hm c3
    rw [nI_pred]
    obtain ⟨n, hn, hnl, hLR⟩ := hL m (by omega)
    refine wp_iload_n dX3_lawNumberFor_7 rfl rfl ?_
    refine wp_if_lt (t := 37) dX3_lawNumberFor_8 rfl rfl (fun h8 => absurd h8 (nI_pos (by omega))) (fun h8 => ?_)
    refine wp_aload_n dX3_lawNumberFor_11 rfl rfl ?_
    refine wp_iload_n dX3_lawNumberFor_12 rfl rfl ?_
    refine wn_callV1r dX3_lawNumberFor_13 rRX3_104 (rcv_of (o11 hi) rfl) (Nat.le_of_ble_eq_true rfl) rfl (Nat.le_of_ble_eq_true rfl) rfl (c3_lawAt hi) (fun x13 s13 hq13 => ?_)
    obtain ⟨e13, rfl⟩ := hq13
    rw [lwa_in (f := f) h8 hc (by omega) hn] at e13
    subst e13
    refine wp_astore_n (l' := [_, _, _, some _]) dX3_lawNumberFor_16 rfl rfl ?_
    refine wp_aload_n dX3_lawNumberFor_17 rfl rfl ?_
    refine wp_ifnullS dX3_lawNumberFor_18 (Nat.le_of_ble_eq_true rfl) rfl ?_
    refine wp_aload_n dX3_lawNumberFor_21 rfl rfl ?_
    refine wn_getI dX3_lawNumberFor_22 fRX3_108 (o34 hnl) rfl rfl ?_
    refine wp_iload_n dX3_lawNumberFor_25 rfl rfl ?_
    rw [hLR.1]
    refine wp_icmp_ne (t := 31) dX3_lawNumberFor_26 rfl rfl (fun h26 => ?_) (fun h26 => ?_)
    · refine wp_iinc (l' := [_, _, some _, _]) (v := (-1)) dX3_lawNumberFor_31 rfl (by decide) rfl rfl ?_
      refine wp_goto (t := 7) dX3_lawNumberFor_34 rfl ?_
      rw [cts, if_neg h26, m1_sub]
      exact ih (by omega) _
    · refine wp_iload_n dX3_lawNumberFor_29 rfl rfl ?_
      refine wp_iret dX3_lawNumberFor_30 rfl rfl ?_
      rw [cts, if_pos h26]
      exact Pd.mk
theorem c3_lawNumberFor {s : Sn} {f : Fl} {c8 : Nat} {key : Int32} (hi : i < 4) (h8 : s.1 (11, i, 0) 8 = nI c8) (hc : c8 ≤ 14) (hL : LwR s i f c8) : Ca (d + 1) MX3_lawNumberFor [vR 11 i 0, vI key] (hN s) (Pd (oC (cts f key c8)) s) := by
  change Wp _ _ 0 [some _, some _, none, none] [] _ _
  refine wp_aload_n dX3_lawNumberFor_0 rfl rfl ?_
  refine wn_getI dX3_lawNumberFor_1 fRX3_43 (o11 hi) rfl rfl ?_
  rw [h8]
  refine wp_iconst (v := 1) dX3_lawNumberFor_4 (by decide) rfl ?_
  refine wp_isub dX3_lawNumberFor_5 rfl ?_
  refine wp_istore_n (l' := [_, _, some _, _]) dX3_lawNumberFor_6 rfl rfl ?_
  exact l3_lnf hi h8 hc hL c8 (Nat.le_refl _) _
/-- the law that counts for a key: none, or one that stands for its text -/
def LW (s : Sn) (i : Nat) (f : Fl) (c8 : Nat) (key : Int32) (r : Option Rf) : Prop := (cts f key c8 = none ∧ r = none) ∨ ∃ t n, cts f key c8 = some t ∧ n < s.2.2.2.1 ∧ r = some (34, n, 0) ∧ LR s n f t
theorem c3_lawFor {s : Sn} {f : Fl} {c8 : Nat} {key : Int32} (hi : i < 4) (h8 : s.1 (11, i, 0) 8 = nI c8) (hc : c8 ≤ 14) (hL : LwR s i f c8) : Ca (d + 2) MX3_lawFor [vR 11 i 0, vI key] (hN s) (Pr fun r t => LW s i f c8 key r ∧ t = s) := by
  change Wp _ _ 0 [some _, some _] [] _ _
  refine wp_aload_n dX3_lawFor_0 rfl rfl ?_
  refine wp_aload_n dX3_lawFor_1 rfl rfl ?_
  refine wp_iload_n dX3_lawFor_2 rfl rfl ?_
  refine wn_callV1d dX3_lawFor_3 rRX3_112 (rcv_of (o11 hi) rfl) (Nat.le_of_ble_eq_true rfl) rfl (Nat.le_of_ble_eq_true rfl) rfl (c3_lawNumberFor hi h8 hc hL) ?_
  refine wn_callV1r dX3_lawFor_6 rRX3_104 (rcv_of (o11 hi) rfl) (Nat.le_of_ble_eq_true rfl) rfl (Nat.le_of_ble_eq_true rfl) rfl (c3_lawAt hi) (fun x6 s6 hq6 => ?_)
  obtain ⟨e6, rfl⟩ := hq6
  refine wp_aret dX3_lawFor_9 rfl rfl ?_
  refine ⟨_, _, rfl, rfl, ?_, rfl⟩
  rw [e6]
  cases ho : cts f key c8 with
  | none => exact Or.inl ⟨ho, if_neg (fun z => absurd z.1.1 (by decide))⟩
  | some t =>
    have ht := (cts_lt ho).1
    obtain ⟨n, hn, hnl, hLR⟩ := hL t ht
    exact Or.inr ⟨t, n, ho, hnl, lwa_in (f := f) h8 hc ht hn, hLR⟩
end
