/-! THE PURE PART, 38: the public method set -/
section
variable {d i : Nat}
theorem log_nat {c : Nat} {x : Int32} (hc : c ≤ 12) (h : 0 ≤ x ∧ x ≤ nI c - 1) : ∃ g, g < c ∧ x = nI g := by
  obtain ⟨k, hk, rfl⟩ := nI_of (Int32.not_lt.mpr h.1)
  cases c with
  | zero => exact absurd (Int32.le_trans h.1 h.2) (by decide)
  | succ c =>
    have h2 := h.2
    rw [nI_pred] at h2
    exact ⟨k, by have := (nI_leI hk (by omega)).mp h2; omega, rfl⟩
theorem nat_log {c g : Nat} (hc : c ≤ 12) (hg : g < c) : 0 ≤ nI g ∧ nI g ≤ nI c - 1 := by
  cases c with
  | zero => exact absurd hg (Nat.not_lt_zero g)
  | succ c => rw [nI_pred]; exact ⟨nI_pos' (by omega), (nI_leI (by omega) (by omega)).mpr (by omega)⟩
abbrev stO (c : Nat) (x w v : Int32) : Prop := (0 ≤ x ∧ x ≤ nI c - 1) ∧ ((w = 1 ∧ 0 ≤ v ∧ v ≤ 25) ∨ (w = 2 ∧ 1 ≤ v ∧ v ≤ 50))
def stA (f : Fl) (c : Nat) (x w v : Int32) : Int32 := if stO c x w v then f (45 + 5 * x.toNatClampNeg + w.toNatClampNeg) else -1000000001
def stF (f : Fl) (c : Nat) (x w v : Int32) : Fl := if stO c x w v then upd f (45 + 5 * x.toNatClampNeg + w.toNatClampNeg) v else f
theorem st_no {f : Fl} {c : Nat} {x w v : Int32} (h : ¬ stO c x w v) : stA f c x w v = -1000000001 ∧ stF f c x w v = f := ⟨if_neg h, if_neg h⟩
theorem st_yes {f : Fl} {c g u : Nat} {v : Int32} (h : stO c (nI g) (nI u) v) (hg : g < 12) (hu : u < 3) : stA f c (nI g) (nI u) v = f (45 + 5 * g + u) ∧ stF f c (nI g) (nI u) v = upd f (45 + 5 * g + u) v := by
  unfold stA stF
  rw [if_pos h, if_pos h, nI_clamp (by omega), nI_clamp (by omega)]
  exact ⟨rfl, rfl⟩
theorem i12 {w : Int32} (h : 1 ≤ w ∧ w ≤ 2) : w = 1 ∨ w = 2 := by
  obtain ⟨n, h1, h2, rfl⟩ := one_nat (b := 2) (by omega) h
  have : n = 1 ∨ n = 2 := by omega
  rcases this with rfl | rfl
  · exact Or.inl rfl
  · exact Or.inr rfl
theorem c8_set {s : Sn} {c : Nat} {x w v : Int32} (hc : c ≤ 12) (h1 : s.1 (41, 0, 0) 1 = nI c) : Ca (d + 2) MX8_set [vR 40 0 0, vI x, vI w, vI v] (hN s) (Pv fun y t => y = stA (s.1 (41, 0, 0)) c x w v ∧ t.1 (41, 0, 0) = stF (s.1 (41, 0, 0)) c x w v ∧ Fr [(41, 0, 0)] s t) := by
  change Wp _ _ 0 [some _, some _, some _, some _] [] _ _
  refine wp_aload_n dX8_set_0 rfl rfl ?_
  refine wp_iload_n dX8_set_1 rfl rfl ?_
  refine wn_callV1d dX8_set_2 rRX8_103 (rcv_of o40 rfl) (Nat.le_of_ble_eq_true rfl) rfl (Nat.le_of_ble_eq_true rfl) rfl (c8_isLog) ?_
  rw [h1]
  refine wp_if_eq_b (t := 55) dX8_set_5 rfl rfl (fun h5 => ?_) (fun h5 => ?_)
  · refine wp_ldc dX8_set_55 kRX8_83 rfl ?_
    refine wp_iret dX8_set_57 rfl rfl ?_
    obtain ⟨e1, e2⟩ := st_no (f := (s.1 (41, 0, 0))) (c := c) (show ¬ stO c x w v from fun z => h5 z.1)
    exact ⟨_, _, rfl, rfl, e1.symm, e2.symm, Fr.rf⟩
  · obtain ⟨g, hg, rfl⟩ := log_nat hc h5
    refine wp_iload_n dX8_set_8 rfl rfl ?_
    refine wp_iconst (v := 1) dX8_set_9 (by decide) rfl ?_
    refine wp_iconst (v := 2) dX8_set_10 (by decide) rfl ?_
    refine wn_callS3d dX8_set_11 rRX8_75 (Nat.le_of_ble_eq_true rfl) rfl rfl rfl (Nat.le_of_ble_eq_true rfl) rfl (c8_in) ?_
    refine wp_if_eq_b (t := 55) dX8_set_14 rfl rfl (fun h14 => ?_) (fun h14 => ?_)
    · refine wp_ldc dX8_set_55 kRX8_83 rfl ?_
      refine wp_iret dX8_set_57 rfl rfl ?_
      obtain ⟨e1, e2⟩ := st_no (f := (s.1 (41, 0, 0))) (c := c) (show ¬ stO c (nI g) w v from fun z => h14 (by rcases z.2 with z | z <;> (rw [z.1]; decide)))
      exact ⟨_, _, rfl, rfl, e1.symm, e2.symm, Fr.rf⟩
    · rcases i12 h14 with rfl | rfl
      · refine wp_iload_n dX8_set_17 rfl rfl ?_
        refine wp_iload_n dX8_set_18 rfl rfl ?_
        refine wp_iconst (v := 1) dX8_set_19 (by decide) rfl ?_
        refine wp_isub dX8_set_20 rfl ?_
        refine wp_iload_n dX8_set_21 rfl rfl ?_
        refine wp_iconst (v := 1) dX8_set_22 (by decide) rfl ?_
        refine wp_icmp_ne (t := 31) dX8_set_23 rfl rfl (fun h23 => absurd rfl h23) (fun h23 => ?_)
        refine wp_bipush (v := 25) dX8_set_26 (by decide) rfl ?_
        refine wp_goto (t := 33) dX8_set_28 rfl ?_
        rw [show (1 : Int32) - 1 = 0 from by decide]
        refine wn_callS3d dX8_set_33 rRX8_75 (Nat.le_of_ble_eq_true rfl) rfl rfl rfl (Nat.le_of_ble_eq_true rfl) rfl (c8_in) ?_
        refine wp_if_eq_b (t := 55) dX8_set_36 rfl rfl (fun h36 => ?_) (fun h36 => ?_)
        · refine wp_ldc dX8_set_55 kRX8_83 rfl ?_
          refine wp_iret dX8_set_57 rfl rfl ?_
          obtain ⟨e1, e2⟩ := st_no (f := (s.1 (41, 0, 0))) (c := c) (show ¬ stO c (nI g) 1 v from fun z => by rcases z.2 with z | z; exact h36 z.2; exact absurd z.1 (by decide))
          exact ⟨_, _, rfl, rfl, e1.symm, e2.symm, Fr.rf⟩
        · refine wp_aload_n dX8_set_39 rfl rfl ?_
          refine wp_bipush (v := 45) dX8_set_40 (by decide) rfl ?_
          refine wp_iconst (v := 5) dX8_set_42 (by decide) rfl ?_
          refine wp_iload_n dX8_set_43 rfl rfl ?_
          refine wp_imul dX8_set_44 rfl ?_
          refine wp_iadd dX8_set_45 rfl ?_
          refine wp_iload_n dX8_set_46 rfl rfl ?_
          refine wp_iadd dX8_set_47 rfl ?_
          refine wp_iload_n dX8_set_48 rfl rfl ?_
          rw [show (45 : Int32) + 5 * nI g + 1 = nI (45 + 5 * g + 1) from ix_l (w := 1)]
          refine wn_callV2d dX8_set_49 rRX8_121 (rcv_of o40 rfl) (Nat.le_of_ble_eq_true rfl) rfl rfl (Nat.le_of_ble_eq_true rfl) rfl (c8_becomes (k := 45 + 5 * g + 1) (by omega)) ?_
          refine wp_goto (t := 57) dX8_set_52 rfl ?_
          refine wp_iret dX8_set_57 rfl rfl ?_
          obtain ⟨e1, e2⟩ := st_yes (f := (s.1 (41, 0, 0))) (c := c) (g := g) (u := 1) (v := v) ⟨h5, Or.inl ⟨rfl, h36⟩⟩ (by omega) (by decide)
          refine ⟨_, _, rfl, rfl, e1.symm, ?_, Fr.rf.pt (by decide)⟩
          rw [sI_row]; exact e2.symm
      · refine wp_iload_n dX8_set_17 rfl rfl ?_
        refine wp_iload_n dX8_set_18 rfl rfl ?_
        refine wp_iconst (v := 1) dX8_set_19 (by decide) rfl ?_
        refine wp_isub dX8_set_20 rfl ?_
        refine wp_iload_n dX8_set_21 rfl rfl ?_
        refine wp_iconst (v := 1) dX8_set_22 (by decide) rfl ?_
        refine wp_icmp_ne (t := 31) dX8_set_23 rfl rfl (fun h23 => ?_) (fun h23 => absurd h23 (by decide))
        refine wp_bipush (v := 50) dX8_set_31 (by decide) rfl ?_
        rw [show (2 : Int32) - 1 = 1 from by decide]
        refine wn_callS3d dX8_set_33 rRX8_75 (Nat.le_of_ble_eq_true rfl) rfl rfl rfl (Nat.le_of_ble_eq_true rfl) rfl (c8_in) ?_
        refine wp_if_eq_b (t := 55) dX8_set_36 rfl rfl (fun h36 => ?_) (fun h36 => ?_)
        · refine wp_ldc dX8_set_55 kRX8_83 rfl ?_
          refine wp_iret dX8_set_57 rfl rfl ?_
          obtain ⟨e1, e2⟩ := st_no (f := (s.1 (41, 0, 0))) (c := c) (show ¬ stO c (nI g) 2 v from fun z => by rcases z.2 with z | z; exact absurd z.1 (by decide); exact h36 z.2)
          exact ⟨_, _, rfl, rfl, e1.symm, e2.symm, Fr.rf⟩
        · refine wp_aload_n dX8_set_39 rfl rfl ?_
          refine wp_bipush (v := 45) dX8_set_40 (by decide) rfl ?_
          refine wp_iconst (v := 5) dX8_set_42 (by decide) rfl ?_
          refine wp_iload_n dX8_set_43 rfl rfl ?_
          refine wp_imul dX8_set_44 rfl ?_
          refine wp_iadd dX8_set_45 rfl ?_
          refine wp_iload_n dX8_set_46 rfl rfl ?_
          refine wp_iadd dX8_set_47 rfl ?_
          refine wp_iload_n dX8_set_48 rfl rfl ?_
          rw [show (45 : Int32) + 5 * nI g + 2 = nI (45 + 5 * g + 2) from ix_l (w := 2)]
          refine wn_callV2d dX8_set_49 rRX8_121 (rcv_of o40 rfl) (Nat.le_of_ble_eq_true rfl) rfl rfl (Nat.le_of_ble_eq_true rfl) rfl (c8_becomes (k := 45 + 5 * g + 2) (by omega)) ?_
          refine wp_goto (t := 57) dX8_set_52 rfl ?_
          refine wp_iret dX8_set_57 rfl rfl ?_
          obtain ⟨e1, e2⟩ := st_yes (f := (s.1 (41, 0, 0))) (c := c) (g := g) (u := 2) (v := v) ⟨h5, Or.inr ⟨rfl, h36⟩⟩ (by omega) (by decide)
          refine ⟨_, _, rfl, rfl, e1.symm, ?_, Fr.rf.pt (by decide)⟩
          rw [sI_row]; exact e2.symm
end
