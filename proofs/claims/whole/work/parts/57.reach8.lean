/-! THE PURE PART, 39: the public method reach -/
section
variable {d i : Nat}
theorem rch_nat {x : Int32} (h : 0 ≤ x ∧ x ≤ 11) : ∃ g, g < 12 ∧ x = nI g := by
  obtain ⟨k, hk, rfl⟩ := nI_of (Int32.not_lt.mpr h.1)
  exact ⟨k, by have := (nI_leI (b := 11) hk (by omega)).mp h.2; omega, rfl⟩
theorem nat_rch {g : Nat} (hg : g < 12) : 0 ≤ nI g ∧ nI g ≤ 11 := ⟨nI_pos' (by omega), (nI_leI (b := 11) (by omega) (by omega)).mpr (by omega)⟩
theorem rch_nat2 {x : Int32} (h : 0 ≤ x ∧ x < 12) : ∃ g, g < 12 ∧ x = nI g := by
  obtain ⟨k, hk, rfl⟩ := nI_of (Int32.not_lt.mpr h.1)
  exact ⟨k, (nI_ltI (b := 12) hk (by omega)).mp h.2, rfl⟩
abbrev rhO (x w v : Int32) : Prop := (0 ≤ x ∧ x ≤ 11) ∧ ((w = 0 ∧ 1 ≤ v ∧ v ≤ 12) ∨ (w = 1 ∧ 0 ≤ v ∧ v ≤ 1))
def rhA (f : Fl) (x w v : Int32) : Int32 := if rhO x w v then f (21 + 12 * w.toNatClampNeg + x.toNatClampNeg) else -1000000001
def rhF (f : Fl) (x w v : Int32) : Fl := if rhO x w v then upd f (21 + 12 * w.toNatClampNeg + x.toNatClampNeg) v else f
theorem rh_no {f : Fl} {x w v : Int32} (h : ¬ rhO x w v) : rhA f x w v = -1000000001 ∧ rhF f x w v = f := ⟨if_neg h, if_neg h⟩
theorem rh_yes {f : Fl} {g u : Nat} {v : Int32} (h : rhO (nI g) (nI u) v) (hg : g < 12) (hu : u < 2) : rhA f (nI g) (nI u) v = f (21 + 12 * u + g) ∧ rhF f (nI g) (nI u) v = upd f (21 + 12 * u + g) v := by
  unfold rhA rhF
  rw [if_pos h, if_pos h, nI_clamp (by omega), nI_clamp (by omega)]
  exact ⟨rfl, rfl⟩
theorem i01 {w : Int32} (h : 0 ≤ w ∧ w ≤ 1) : w = 0 ∨ w = 1 := by
  obtain ⟨k, hk, rfl⟩ := nI_of (Int32.not_lt.mpr h.1)
  have h2 := (nI_leI (b := 1) hk (by omega)).mp h.2
  have : k = 0 ∨ k = 1 := by omega
  rcases this with rfl | rfl
  · exact Or.inl rfl
  · exact Or.inr rfl
theorem c8_reach {s : Sn} {x w v : Int32} : Ca (d + 2) MX8_reach [vR 40 0 0, vI x, vI w, vI v] (hN s) (Pv fun y t => y = rhA (s.1 (41, 0, 0)) x w v ∧ t.1 (41, 0, 0) = rhF (s.1 (41, 0, 0)) x w v ∧ Fr [(41, 0, 0)] s t) := by
  change Wp _ _ 0 [some _, some _, some _, some _] [] _ _
  refine wp_iload_n dX8_reach_0 rfl rfl ?_
  refine wn_callS1d dX8_reach_1 rRX8_124 (Nat.le_of_ble_eq_true rfl) rfl (Nat.le_of_ble_eq_true rfl) rfl (c8_isReach) ?_
  refine wp_if_eq_b (t := 53) dX8_reach_4 rfl rfl (fun h4 => ?_) (fun h4 => ?_)
  · refine wp_ldc dX8_reach_53 kRX8_83 rfl ?_
    refine wp_iret dX8_reach_55 rfl rfl ?_
    obtain ⟨e1, e2⟩ := rh_no (f := (s.1 (41, 0, 0))) (show ¬ rhO x w v from fun z => h4 z.1)
    exact ⟨_, _, rfl, rfl, e1.symm, e2.symm, Fr.rf⟩
  · obtain ⟨g, hg, rfl⟩ := rch_nat h4
    refine wp_iload_n dX8_reach_7 rfl rfl ?_
    refine wp_iconst (v := 0) dX8_reach_8 (by decide) rfl ?_
    refine wp_iconst (v := 1) dX8_reach_9 (by decide) rfl ?_
    refine wn_callS3d dX8_reach_10 rRX8_75 (Nat.le_of_ble_eq_true rfl) rfl rfl rfl (Nat.le_of_ble_eq_true rfl) rfl (c8_in) ?_
    refine wp_if_eq_b (t := 53) dX8_reach_13 rfl rfl (fun h13 => ?_) (fun h13 => ?_)
    · refine wp_ldc dX8_reach_53 kRX8_83 rfl ?_
      refine wp_iret dX8_reach_55 rfl rfl ?_
      obtain ⟨e1, e2⟩ := rh_no (f := (s.1 (41, 0, 0))) (show ¬ rhO (nI g) w v from fun z => h13 (by rcases z.2 with z | z <;> (rw [z.1]; decide)))
      exact ⟨_, _, rfl, rfl, e1.symm, e2.symm, Fr.rf⟩
    · rcases i01 h13 with rfl | rfl
      · refine wp_iload_n dX8_reach_16 rfl rfl ?_
        refine wp_iconst (v := 1) dX8_reach_17 (by decide) rfl ?_
        refine wp_iload_n dX8_reach_18 rfl rfl ?_
        refine wp_isub dX8_reach_19 rfl ?_
        refine wp_iload_n dX8_reach_20 rfl rfl ?_
        refine wp_if_ne (t := 29) dX8_reach_21 rfl rfl (fun h21 => absurd rfl h21) (fun h21 => ?_)
        refine wp_bipush (v := 12) dX8_reach_24 (by decide) rfl ?_
        refine wp_goto (t := 30) dX8_reach_26 rfl ?_
        rw [show (1 : Int32) - 0 = 1 from by decide]
        refine wn_callS3d dX8_reach_30 rRX8_75 (Nat.le_of_ble_eq_true rfl) rfl rfl rfl (Nat.le_of_ble_eq_true rfl) rfl (c8_in) ?_
        refine wp_if_eq_b (t := 53) dX8_reach_33 rfl rfl (fun h33 => ?_) (fun h33 => ?_)
        · refine wp_ldc dX8_reach_53 kRX8_83 rfl ?_
          refine wp_iret dX8_reach_55 rfl rfl ?_
          obtain ⟨e1, e2⟩ := rh_no (f := (s.1 (41, 0, 0))) (show ¬ rhO (nI g) 0 v from fun z => by rcases z.2 with z | z; exact h33 z.2; exact absurd z.1 (by decide))
          exact ⟨_, _, rfl, rfl, e1.symm, e2.symm, Fr.rf⟩
        · refine wp_aload_n dX8_reach_36 rfl rfl ?_
          refine wp_bipush (v := 21) dX8_reach_37 (by decide) rfl ?_
          refine wp_bipush (v := 12) dX8_reach_39 (by decide) rfl ?_
          refine wp_iload_n dX8_reach_41 rfl rfl ?_
          refine wp_imul dX8_reach_42 rfl ?_
          refine wp_iadd dX8_reach_43 rfl ?_
          refine wp_iload_n dX8_reach_44 rfl rfl ?_
          refine wp_iadd dX8_reach_45 rfl ?_
          refine wp_iload_n dX8_reach_46 rfl rfl ?_
          rw [show (21 : Int32) + 12 * 0 = nI (21 + 12 * 0) from by decide, nI_add]
          refine wn_callV2d dX8_reach_47 rRX8_121 (rcv_of o40 rfl) (Nat.le_of_ble_eq_true rfl) rfl rfl (Nat.le_of_ble_eq_true rfl) rfl (c8_becomes (k := 21 + 12 * 0 + g) (by omega)) ?_
          refine wp_goto (t := 55) dX8_reach_50 rfl ?_
          refine wp_iret dX8_reach_55 rfl rfl ?_
          obtain ⟨e1, e2⟩ := rh_yes (f := (s.1 (41, 0, 0))) (g := g) (u := 0) (v := v) ⟨h4, Or.inl ⟨rfl, h33⟩⟩ hg (by decide)
          refine ⟨_, _, rfl, rfl, e1.symm, ?_, Fr.rf.pt (by decide)⟩
          rw [sI_row]; exact e2.symm
      · refine wp_iload_n dX8_reach_16 rfl rfl ?_
        refine wp_iconst (v := 1) dX8_reach_17 (by decide) rfl ?_
        refine wp_iload_n dX8_reach_18 rfl rfl ?_
        refine wp_isub dX8_reach_19 rfl ?_
        refine wp_iload_n dX8_reach_20 rfl rfl ?_
        refine wp_if_ne (t := 29) dX8_reach_21 rfl rfl (fun h21 => ?_) (fun h21 => absurd h21 (by decide))
        refine wp_iconst (v := 1) dX8_reach_29 (by decide) rfl ?_
        rw [show (1 : Int32) - 1 = 0 from by decide]
        refine wn_callS3d dX8_reach_30 rRX8_75 (Nat.le_of_ble_eq_true rfl) rfl rfl rfl (Nat.le_of_ble_eq_true rfl) rfl (c8_in) ?_
        refine wp_if_eq_b (t := 53) dX8_reach_33 rfl rfl (fun h33 => ?_) (fun h33 => ?_)
        · refine wp_ldc dX8_reach_53 kRX8_83 rfl ?_
          refine wp_iret dX8_reach_55 rfl rfl ?_
          obtain ⟨e1, e2⟩ := rh_no (f := (s.1 (41, 0, 0))) (show ¬ rhO (nI g) 1 v from fun z => by rcases z.2 with z | z; exact absurd z.1 (by decide); exact h33 z.2)
          exact ⟨_, _, rfl, rfl, e1.symm, e2.symm, Fr.rf⟩
        · refine wp_aload_n dX8_reach_36 rfl rfl ?_
          refine wp_bipush (v := 21) dX8_reach_37 (by decide) rfl ?_
          refine wp_bipush (v := 12) dX8_reach_39 (by decide) rfl ?_
          refine wp_iload_n dX8_reach_41 rfl rfl ?_
          refine wp_imul dX8_reach_42 rfl ?_
          refine wp_iadd dX8_reach_43 rfl ?_
          refine wp_iload_n dX8_reach_44 rfl rfl ?_
          refine wp_iadd dX8_reach_45 rfl ?_
          refine wp_iload_n dX8_reach_46 rfl rfl ?_
          rw [show (21 : Int32) + 12 * 1 = nI (21 + 12 * 1) from by decide, nI_add]
          refine wn_callV2d dX8_reach_47 rRX8_121 (rcv_of o40 rfl) (Nat.le_of_ble_eq_true rfl) rfl rfl (Nat.le_of_ble_eq_true rfl) rfl (c8_becomes (k := 21 + 12 * 1 + g) (by omega)) ?_
          refine wp_goto (t := 55) dX8_reach_50 rfl ?_
          refine wp_iret dX8_reach_55 rfl rfl ?_
          obtain ⟨e1, e2⟩ := rh_yes (f := (s.1 (41, 0, 0))) (g := g) (u := 1) (v := v) ⟨h4, Or.inr ⟨rfl, h33⟩⟩ hg (by decide)
          refine ⟨_, _, rfl, rfl, e1.symm, ?_, Fr.rf.pt (by decide)⟩
          rw [sI_row]; exact e2.symm
end
