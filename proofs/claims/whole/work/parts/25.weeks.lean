/-! THE PURE PART, 10: the reference's weeks -/
theorem upd_self {f : Fl} {k : Nat} {v : Int32} (h : f k = v) : upd f k v = f := by
  funext j
  unfold upd
  by_cases hj : j = k
  · rw [if_pos hj, hj, h]
  · rw [if_neg hj]
theorem upd_ne {f : Fl} {k j : Nat} {v : Int32} (h : j ≠ k) : upd f k v j = f j := by unfold upd; rw [if_neg h]
theorem upd_eq {f : Fl} {k : Nat} {v : Int32} : upd f k v k = v := by unfold upd; rw [if_pos rfl]
theorem drf_nat {f : Fl} {g : Nat} : ∃ m, m ≤ 13 ∧ drf f g = nI m := by
  have hw : ∀ x : Int32, ∃ m, m ≤ 12 ∧ wth x 0 12 = nI m := by
    intro x
    unfold wth
    by_cases h0 : x < 0
    · rw [if_pos h0]; exact ⟨0, by omega, rfl⟩
    · rw [if_neg h0]
      obtain ⟨k, hk, rfl⟩ := nI_of h0
      by_cases h1 : (12 : Int32) < nI k
      · rw [if_pos h1]; exact ⟨12, by omega, rfl⟩
      · rw [if_neg h1]
        exact ⟨k, by have := mt (nI_ltI (a := 12) (by omega) hk).mpr h1; omega, rfl⟩
  obtain ⟨m, hm, e⟩ := hw (pln f g)
  unfold drf
  rw [e]
  have hd2 : nI m / 2 = nI (m / 2) := by rw [show (2 : Int32) = nI 2 from rfl, pk_div (by omega) (by omega) (by omega)]
  have hw3 : ∃ q, q ≤ 13 ∧ wth (nI m + 1) 0 3 = nI q := by
    unfold wth
    rw [nI_1, if_neg (nI_pos (by omega))]
    by_cases h1 : (3 : Int32) < nI (m + 1)
    · rw [if_pos h1]; exact ⟨3, by omega, rfl⟩
    · rw [if_neg h1]; exact ⟨m + 1, by omega, rfl⟩
  unfold kdr
  split
  · exact ⟨m / 2, by omega, hd2⟩
  · split
    · exact ⟨m + 1, by omega, nI_1 m⟩
    · split
      · split
        · exact ⟨0, by omega, rfl⟩
        · exact ⟨m / 2, by omega, hd2⟩
      · split
        · exact hw3
        · split
          · exact ⟨0, by omega, rfl⟩
          · exact ⟨m, by omega, rfl⟩
section
variable {d : Nat}
theorem l8_gd0 {s : Sn} {j : Nat} {x : Int32} {c4 : Option Av} : Wp d MX8_goesDown 8 [some (vR 40 0 0), some (vI (nI j)), some (vI x), some (vI 0), c4] [] (hN s) (Pn fun t => t = s) := by
  refine wp_iload_n dX8_goesDown_8 rfl rfl ?_
  refine wp_if_le (t := 147) dX8_goesDown_9 rfl rfl (fun h9 => ?_) (fun h9 => ?_)
  · refine wp_ret dX8_goesDown_147 rfl ?_
    exact ⟨_, rfl, rfl, rfl⟩
  · refine wp_iload_n dX8_goesDown_12 rfl rfl ?_
    refine wp_if_eq (t := 147) dX8_goesDown_13 rfl rfl (fun h13 => ?_) (fun h13 => absurd rfl h13)
    refine wp_ret dX8_goesDown_147 rfl ?_
    exact ⟨_, rfl, rfl, rfl⟩
def GdP (s : Sn) (j c r : Nat) : Prop := s.1 (41, 0, 0) 1 = nI c ∧ s.1 (41, 0, 0) (45 + 5 * j + 3) = nI r
theorem l8_gd {j : Nat} (hj : j < 12) : ∀ (m : Nat), m ≤ 13 → ∀ (s : Sn) (c4 : Option Av) (c r : Nat), c ≤ 12 → GdP s j c r → r ≤ 13 → Wp (d + 2) MX8_goesDown 8 [some (vR 40 0 0), some (vI (nI j)), some (vI (nI m)), some (vI 1), c4] [] (hN s) (Pn fun t => t.1 (41, 0, 0) = gdn j m (s.1 (41, 0, 0)) ∧ Fr [(41, 0, 0), (41, 10, 0), (41, 11, 0)] s t) := by
  intro m
  induction m with
  | zero =>
    intro _ s c4 c r hc hG hr13
    refine wp_iload_n dX8_goesDown_8 rfl rfl ?_
    refine wp_if_le (t := 147) dX8_goesDown_9 rfl rfl (fun h9 => ?_) (fun h9 => absurd (by decide) h9)
    refine wp_ret dX8_goesDown_147 rfl ?_
    exact ⟨_, rfl, rfl, rfl, Fr.rf⟩
  | succ m ih0 =>
    intro hm s c4 c r hc hG hr13
    obtain ⟨h1, hr⟩ := hG
    have ih := ih0 (by omega)
    refine wp_iload_n dX8_goesDown_8 rfl rfl ?_
    refine wp_if_le (t := 147) dX8_goesDown_9 rfl rfl (fun h9 => absurd h9 (nI_nle (by omega) (by omega))) (fun h9 => ?_)
    refine wp_iload_n dX8_goesDown_12 rfl rfl ?_
    refine wp_if_eq (t := 147) dX8_goesDown_13 rfl rfl (fun h13 => absurd h13 (by decide)) (fun h13 => ?_)
    refine wp_aload_n dX8_goesDown_16 rfl rfl ?_
    refine wp_iload_n dX8_goesDown_17 rfl rfl ?_
    refine wp_iconst (v := 3) dX8_goesDown_18 (by decide) rfl ?_
    refine wn_callV2d dX8_goesDown_19 rRX8_93 (rcv_of o40 rfl) (Nat.le_of_ble_eq_true rfl) rfl rfl (Nat.le_of_ble_eq_true rfl) rfl (c8_of (w := 3) hj (by decide)) ?_
    rw [hr]
    refine wp_istore (l' := [_, _, _, _, some _]) dX8_goesDown_22 rfl rfl ?_
    refine wp_iload dX8_goesDown_24 rfl rfl ?_
    refine wp_bipush (v := 12) dX8_goesDown_26 (by decide) rfl ?_
    refine wp_icmp_ge (t := 78) dX8_goesDown_28 rfl rfl (fun h28 => ?_) (fun h28 => ?_)
    · refine wp_iconst (v := 0) dX8_goesDown_78 (by decide) rfl ?_
      refine wp_istore_n (l' := [_, _, _, some _, _]) dX8_goesDown_79 rfl rfl ?_
      refine wp_iload_n dX8_goesDown_80 rfl rfl ?_
      refine wp_if_eq (t := 105) dX8_goesDown_81 rfl rfl (fun h81 => ?_) (fun h81 => absurd rfl h81)
      refine wp_aload_n dX8_goesDown_105 rfl rfl ?_
      refine wp_iload_n dX8_goesDown_106 rfl rfl ?_
      refine wp_iconst (v := 3) dX8_goesDown_107 (by decide) rfl ?_
      refine wp_iload_n dX8_goesDown_108 rfl rfl ?_
      refine wp_if_eq (t := 119) dX8_goesDown_109 rfl rfl (fun h109 => ?_) (fun h109 => absurd rfl h109)
      refine wp_iload dX8_goesDown_119 rfl rfl ?_
      refine wn_callV3n dX8_goesDown_121 rRX8_79 (rcv_of o40 rfl) (Nat.le_of_ble_eq_true rfl) rfl rfl rfl (Nat.le_of_ble_eq_true rfl) rfl (c8_put (w := 3) hj (by decide)) (fun s121 hq121 => ?_)
      subst hq121
      refine wp_iinc (l' := [_, _, some _, _, _]) (v := (-1)) dX8_goesDown_124 rfl (by decide) rfl rfl ?_
      refine wp_iload_n dX8_goesDown_127 rfl rfl ?_
      refine wp_if_eq (t := 142) dX8_goesDown_128 rfl rfl (fun h128 => ?_) (fun h128 => absurd rfl h128)
      refine wp_iconst (v := 0) dX8_goesDown_142 (by decide) rfl ?_
      refine wp_istore_n (l' := [_, _, _, some _, _]) dX8_goesDown_143 rfl rfl ?_
      refine wp_goto (t := 8) dX8_goesDown_144 rfl ?_
      refine (l8_gd0).conseq ?_
      rintro v σ1 ⟨t, rfl, rfl, rfl⟩
      refine ⟨_, rfl, rfl, ?_, Fr.rf.pt (by decide)⟩
      rw [sI_row, gdn]
      have e : stp (s.1 (41, 0, 0)) j = (s.1 (41, 0, 0), false) := by
        unfold stp
        rw [hr]
        exact if_neg (fun z => absurd z.1 (Int32.not_lt.mpr h28))
      rw [e]
      exact upd_self hr
    · have hr12 : r < 12 := by have := mt (nI_leI (a := 12) (by omega) (by omega)).mpr h28; omega
      refine wp_aload_n dX8_goesDown_31 rfl rfl ?_
      refine wn_getR dX8_goesDown_32 fRX8_9 o40 rfl rfl rfl ?_
      refine wp_bipush (v := 33) dX8_goesDown_35 (by decide) rfl ?_
      refine wp_iload dX8_goesDown_37 rfl rfl ?_
      refine wp_iadd dX8_goesDown_39 rfl ?_
      refine wn_iald dX8_goesDown_40 (o41 0 rfl) rfl (nIx (by rw [show (33 : Int32) = nI 33 from rfl, nI_add]) (by omega)) (by show _ < 1477; omega) rfl ?_
      refine wp_if_ne (t := 78) dX8_goesDown_41 rfl rfl (fun h41 => ?_) (fun h41 => ?_)
      · refine wp_iconst (v := 0) dX8_goesDown_78 (by decide) rfl ?_
        refine wp_istore_n (l' := [_, _, _, some _, _]) dX8_goesDown_79 rfl rfl ?_
        refine wp_iload_n dX8_goesDown_80 rfl rfl ?_
        refine wp_if_eq (t := 105) dX8_goesDown_81 rfl rfl (fun h81 => ?_) (fun h81 => absurd rfl h81)
        refine wp_aload_n dX8_goesDown_105 rfl rfl ?_
        refine wp_iload_n dX8_goesDown_106 rfl rfl ?_
        refine wp_iconst (v := 3) dX8_goesDown_107 (by decide) rfl ?_
        refine wp_iload_n dX8_goesDown_108 rfl rfl ?_
        refine wp_if_eq (t := 119) dX8_goesDown_109 rfl rfl (fun h109 => ?_) (fun h109 => absurd rfl h109)
        refine wp_iload dX8_goesDown_119 rfl rfl ?_
        refine wn_callV3n dX8_goesDown_121 rRX8_79 (rcv_of o40 rfl) (Nat.le_of_ble_eq_true rfl) rfl rfl rfl (Nat.le_of_ble_eq_true rfl) rfl (c8_put (w := 3) hj (by decide)) (fun s121 hq121 => ?_)
        subst hq121
        refine wp_iinc (l' := [_, _, some _, _, _]) (v := (-1)) dX8_goesDown_124 rfl (by decide) rfl rfl ?_
        refine wp_iload_n dX8_goesDown_127 rfl rfl ?_
        refine wp_if_eq (t := 142) dX8_goesDown_128 rfl rfl (fun h128 => ?_) (fun h128 => absurd rfl h128)
        refine wp_iconst (v := 0) dX8_goesDown_142 (by decide) rfl ?_
        refine wp_istore_n (l' := [_, _, _, some _, _]) dX8_goesDown_143 rfl rfl ?_
        refine wp_goto (t := 8) dX8_goesDown_144 rfl ?_
        refine (l8_gd0).conseq ?_
        rintro v σ1 ⟨t, rfl, rfl, rfl⟩
        refine ⟨_, rfl, rfl, ?_, Fr.rf.pt (by decide)⟩
        rw [sI_row, gdn]
        have e : stp (s.1 (41, 0, 0)) j = (s.1 (41, 0, 0), false) := by
          unfold stp
          rw [hr]
          exact if_neg (fun z => h41 (by have := z.2.1; rw [nI_clamp (by omega)] at this; exact this))
        rw [e]
        exact upd_self hr
      · refine wp_iload dX8_goesDown_44 rfl rfl ?_
        refine wp_bipush (v := 11) dX8_goesDown_46 (by decide) rfl ?_
        refine wp_icmp_eq (t := 74) dX8_goesDown_48 rfl rfl (fun h48 => ?_) (fun h48 => ?_)
        · refine wp_iconst (v := 1) dX8_goesDown_74 (by decide) rfl ?_
          refine wp_goto (t := 79) dX8_goesDown_75 rfl ?_
          refine wp_istore_n (l' := [_, _, _, some _, _]) dX8_goesDown_79 rfl rfl ?_
          refine wp_iload_n dX8_goesDown_80 rfl rfl ?_
          refine wp_if_eq (t := 105) dX8_goesDown_81 rfl rfl (fun h81 => absurd h81 (by decide)) (fun h81 => ?_)
          refine wp_iload dX8_goesDown_84 rfl rfl ?_
          refine wp_bipush (v := 11) dX8_goesDown_86 (by decide) rfl ?_
          refine wp_icmp_ne (t := 105) dX8_goesDown_88 rfl rfl (fun h88 => absurd h48 h88) (fun h88 => ?_)
          refine wp_aload_n dX8_goesDown_91 rfl rfl ?_
          refine wp_iload_n dX8_goesDown_92 rfl rfl ?_
          refine wp_iconst (v := 4) dX8_goesDown_93 (by decide) rfl ?_
          refine wp_aload_n dX8_goesDown_94 rfl rfl ?_
          refine wp_bipush (v := 12) dX8_goesDown_95 (by decide) rfl ?_
          refine wn_callV1d dX8_goesDown_97 rRX8_133 (rcv_of o40 rfl) (Nat.le_of_ble_eq_true rfl) rfl (Nat.le_of_ble_eq_true rfl) rfl (c8_manyAt hc h1) ?_
          refine wp_iconst (v := 1) dX8_goesDown_100 (by decide) rfl ?_
          refine wp_iadd dX8_goesDown_101 rfl ?_
          refine wn_callV3n dX8_goesDown_102 rRX8_79 (rcv_of o40 rfl) (Nat.le_of_ble_eq_true rfl) rfl rfl rfl (Nat.le_of_ble_eq_true rfl) rfl (c8_put (w := 4) hj (by decide)) (fun s102 hq102 => ?_)
          subst hq102
          refine wp_aload_n dX8_goesDown_105 rfl rfl ?_
          refine wp_iload_n dX8_goesDown_106 rfl rfl ?_
          refine wp_iconst (v := 3) dX8_goesDown_107 (by decide) rfl ?_
          refine wp_iload_n dX8_goesDown_108 rfl rfl ?_
          refine wp_if_eq (t := 119) dX8_goesDown_109 rfl rfl (fun h109 => absurd h109 (by decide)) (fun h109 => ?_)
          refine wp_iload dX8_goesDown_112 rfl rfl ?_
          refine wp_iconst (v := 1) dX8_goesDown_114 (by decide) rfl ?_
          refine wp_iadd dX8_goesDown_115 rfl ?_
          refine wp_goto (t := 121) dX8_goesDown_116 rfl ?_
          refine wn_callV3n dX8_goesDown_121 rRX8_79 (rcv_of o40 rfl) (Nat.le_of_ble_eq_true rfl) rfl rfl rfl (Nat.le_of_ble_eq_true rfl) rfl (c8_put (w := 3) hj (by decide)) (fun s121 hq121 => ?_)
          subst hq121
          refine wp_iinc (l' := [_, _, some _, _, _]) (v := (-1)) dX8_goesDown_124 rfl (by decide) rfl rfl ?_
          refine wp_iload_n dX8_goesDown_127 rfl rfl ?_
          refine wp_if_eq (t := 142) dX8_goesDown_128 rfl rfl (fun h128 => absurd h128 (by decide)) (fun h128 => ?_)
          refine wp_iload dX8_goesDown_131 rfl rfl ?_
          refine wp_bipush (v := 11) dX8_goesDown_133 (by decide) rfl ?_
          refine wp_icmp_ge (t := 142) dX8_goesDown_135 rfl rfl (fun h135 => ?_) (fun h135 => absurd (show (11 : Int32) ≤ nI r by rw [h48]; decide) h135)
          refine wp_iconst (v := 0) dX8_goesDown_142 (by decide) rfl ?_
          refine wp_istore_n (l' := [_, _, _, some _, _]) dX8_goesDown_143 rfl rfl ?_
          refine wp_goto (t := 8) dX8_goesDown_144 rfl ?_
          refine (l8_gd0).conseq ?_
          rintro v σ1 ⟨t, rfl, rfl, rfl⟩
          refine ⟨_, rfl, rfl, ?_, (Fr.rf.pt (by decide)).pt (by decide)⟩
          rw [sI_row, sI_row, gdn]
          have e : stp (s.1 (41, 0, 0)) j = (upd (upd (s.1 (41, 0, 0)) (45 + 5 * j + 4) (nI (mny (s.1 (41, 0, 0)) 12) + 1)) (45 + 5 * j + 3) 12, false) := by
            unfold stp
            rw [hr]
            rw [if_pos ⟨Int32.not_le.mp h28, by rw [nI_clamp (by omega)]; exact h41, Or.inl h48⟩, if_pos h48]
          rw [e]
          rw [h48]
          rfl
        · refine wp_aload_n dX8_goesDown_51 rfl rfl ?_
          refine wp_iload dX8_goesDown_52 rfl rfl ?_
          refine wp_iconst (v := 1) dX8_goesDown_54 (by decide) rfl ?_
          refine wp_iadd dX8_goesDown_55 rfl ?_
          refine wn_callV1d dX8_goesDown_56 rRX8_133 (rcv_of o40 rfl) (Nat.le_of_ble_eq_true rfl) rfl (Nat.le_of_ble_eq_true rfl) rfl (c8_manyAt hc h1) ?_
          refine wp_aload_n dX8_goesDown_59 rfl rfl ?_
          refine wn_getR dX8_goesDown_60 fRX8_9 o40 rfl rfl rfl ?_
          refine wp_bipush (v := 21) dX8_goesDown_63 (by decide) rfl ?_
          refine wp_iload dX8_goesDown_65 rfl rfl ?_
          refine wp_iadd dX8_goesDown_67 rfl ?_
          refine wp_iconst (v := 1) dX8_goesDown_68 (by decide) rfl ?_
          refine wp_iadd dX8_goesDown_69 rfl ?_
          refine wn_iald dX8_goesDown_70 (o41 0 rfl) rfl (nIx (by rw [show (21 : Int32) = nI 21 from rfl, nI_add, nI_1]) (by omega)) (by show _ < 1477; omega) rfl ?_
          refine wp_icmp_ge (t := 78) dX8_goesDown_71 rfl rfl (fun h71 => ?_) (fun h71 => ?_)
          · refine wp_iconst (v := 0) dX8_goesDown_78 (by decide) rfl ?_
            refine wp_istore_n (l' := [_, _, _, some _, _]) dX8_goesDown_79 rfl rfl ?_
            refine wp_iload_n dX8_goesDown_80 rfl rfl ?_
            refine wp_if_eq (t := 105) dX8_goesDown_81 rfl rfl (fun h81 => ?_) (fun h81 => absurd rfl h81)
            refine wp_aload_n dX8_goesDown_105 rfl rfl ?_
            refine wp_iload_n dX8_goesDown_106 rfl rfl ?_
            refine wp_iconst (v := 3) dX8_goesDown_107 (by decide) rfl ?_
            refine wp_iload_n dX8_goesDown_108 rfl rfl ?_
            refine wp_if_eq (t := 119) dX8_goesDown_109 rfl rfl (fun h109 => ?_) (fun h109 => absurd rfl h109)
            refine wp_iload dX8_goesDown_119 rfl rfl ?_
            refine wn_callV3n dX8_goesDown_121 rRX8_79 (rcv_of o40 rfl) (Nat.le_of_ble_eq_true rfl) rfl rfl rfl (Nat.le_of_ble_eq_true rfl) rfl (c8_put (w := 3) hj (by decide)) (fun s121 hq121 => ?_)
            subst hq121
            refine wp_iinc (l' := [_, _, some _, _, _]) (v := (-1)) dX8_goesDown_124 rfl (by decide) rfl rfl ?_
            refine wp_iload_n dX8_goesDown_127 rfl rfl ?_
            refine wp_if_eq (t := 142) dX8_goesDown_128 rfl rfl (fun h128 => ?_) (fun h128 => absurd rfl h128)
            refine wp_iconst (v := 0) dX8_goesDown_142 (by decide) rfl ?_
            refine wp_istore_n (l' := [_, _, _, some _, _]) dX8_goesDown_143 rfl rfl ?_
            refine wp_goto (t := 8) dX8_goesDown_144 rfl ?_
            refine (l8_gd0).conseq ?_
            rintro v σ1 ⟨t, rfl, rfl, rfl⟩
            refine ⟨_, rfl, rfl, ?_, Fr.rf.pt (by decide)⟩
            rw [sI_row, gdn]
            have e : stp (s.1 (41, 0, 0)) j = (s.1 (41, 0, 0), false) := by
              unfold stp
              rw [hr]
              exact if_neg (fun z => by rcases z.2.2 with q | q; exact h48 q; rw [nI_1, nI_clamp (by omega)] at q; rw [nI_1] at h71; exact absurd q (Int32.not_lt.mpr h71))
            rw [e]
            exact upd_self hr
          · refine wp_iconst (v := 1) dX8_goesDown_74 (by decide) rfl ?_
            refine wp_goto (t := 79) dX8_goesDown_75 rfl ?_
            refine wp_istore_n (l' := [_, _, _, some _, _]) dX8_goesDown_79 rfl rfl ?_
            refine wp_iload_n dX8_goesDown_80 rfl rfl ?_
            refine wp_if_eq (t := 105) dX8_goesDown_81 rfl rfl (fun h81 => absurd h81 (by decide)) (fun h81 => ?_)
            refine wp_iload dX8_goesDown_84 rfl rfl ?_
            refine wp_bipush (v := 11) dX8_goesDown_86 (by decide) rfl ?_
            refine wp_icmp_ne (t := 105) dX8_goesDown_88 rfl rfl (fun h88 => ?_) (fun h88 => absurd h88 h48)
            refine wp_aload_n dX8_goesDown_105 rfl rfl ?_
            refine wp_iload_n dX8_goesDown_106 rfl rfl ?_
            refine wp_iconst (v := 3) dX8_goesDown_107 (by decide) rfl ?_
            refine wp_iload_n dX8_goesDown_108 rfl rfl ?_
            refine wp_if_eq (t := 119) dX8_goesDown_109 rfl rfl (fun h109 => absurd h109 (by decide)) (fun h109 => ?_)
            refine wp_iload dX8_goesDown_112 rfl rfl ?_
            refine wp_iconst (v := 1) dX8_goesDown_114 (by decide) rfl ?_
            refine wp_iadd dX8_goesDown_115 rfl ?_
            refine wp_goto (t := 121) dX8_goesDown_116 rfl ?_
            refine wn_callV3n dX8_goesDown_121 rRX8_79 (rcv_of o40 rfl) (Nat.le_of_ble_eq_true rfl) rfl rfl rfl (Nat.le_of_ble_eq_true rfl) rfl (c8_put (w := 3) hj (by decide)) (fun s121 hq121 => ?_)
            subst hq121
            refine wp_iinc (l' := [_, _, some _, _, _]) (v := (-1)) dX8_goesDown_124 rfl (by decide) rfl rfl ?_
            refine wp_iload_n dX8_goesDown_127 rfl rfl ?_
            refine wp_if_eq (t := 142) dX8_goesDown_128 rfl rfl (fun h128 => absurd h128 (by decide)) (fun h128 => ?_)
            refine wp_iload dX8_goesDown_131 rfl rfl ?_
            refine wp_bipush (v := 11) dX8_goesDown_133 (by decide) rfl ?_
            refine wp_icmp_ge (t := 142) dX8_goesDown_135 rfl rfl (fun h135 => absurd ((nI_leI (a := 11) (by omega) (by omega)).mp h135) (by have : r ≠ 11 := fun z => h48 (by rw [z]; rfl); omega)) (fun h135 => ?_)
            refine wp_iconst (v := 1) dX8_goesDown_138 (by decide) rfl ?_
            refine wp_goto (t := 143) dX8_goesDown_139 rfl ?_
            refine wp_istore_n (l' := [_, _, _, some _, _]) dX8_goesDown_143 rfl rfl ?_
            refine wp_goto (t := 8) dX8_goesDown_144 rfl ?_
            rw [m1_sub, nI_pred]
            have e : stp (s.1 (41, 0, 0)) j = (upd (s.1 (41, 0, 0)) (45 + 5 * j + 3) (nI r + 1), true) := by
              unfold stp
              rw [hr]
              rw [if_pos ⟨Int32.not_le.mp h28, by rw [nI_clamp (by omega)]; exact h41, Or.inr (by rw [nI_1, nI_clamp (by omega)]; rw [nI_1] at h71; exact Int32.not_le.mp h71)⟩, if_neg h48]
            refine (ih (sI s (41, 0, 0) (45 + 5 * j + 3) (nI r + 1)) _ c (r + 1) hc ⟨by rw [sI_row, upd_ne (by omega)]; exact h1, by rw [sI_row, upd_eq, nI_1]⟩ (by have : r ≠ 11 := fun z => h48 (by rw [z]; rfl); omega)).conseq ?_
            rintro v σ1 ⟨t, rfl, rfl, ht, hF⟩
            refine ⟨_, rfl, rfl, ?_, (Fr.rf.pt (by decide)).tr hF⟩
            rw [ht, sI_row, gdn, e]
            rfl
theorem c8_goesDown {s : Sn} {j c r c8 : Nat} (hj : j < 12) (hc : c ≤ 12) (hG : GdP s j c r) (hr13 : r ≤ 13) (hc8 : c8 ≤ 14) (h8 : s.1 (41, 0, 0) 8 = nI c8) (hT : ∀ t, t < c8 → WT (s.1 (41, 0, 0)) t) : Ca (d + 3) MX8_goesDown [vR 40 0 0, vI (nI j)] (hN s) (Pn fun t => t.1 (41, 0, 0) = gdn j (drf (s.1 (41, 0, 0)) j).toNatClampNeg (s.1 (41, 0, 0)) ∧ Fr [(41, 0, 0), (41, 10, 0), (41, 11, 0)] s t) := by
  change Wp _ _ 0 [some _, some _, none, none, none] [] _ _
  obtain ⟨m, hm, em⟩ := drf_nat (f := s.1 (41, 0, 0)) (g := j)
  refine wp_aload_n dX8_goesDown_0 rfl rfl ?_
  refine wp_iload_n dX8_goesDown_1 rfl rfl ?_
  refine wn_callV1i dX8_goesDown_2 rRX8_107 (rcv_of o40 rfl) (Nat.le_of_ble_eq_true rfl) rfl (Nat.le_of_ble_eq_true rfl) rfl (c8_drifts hj hc8 h8 hT) (fun x2 s2 hq2 => ?_)
  obtain ⟨rfl, hF⟩ := hq2
  have hnow : s2.1 (41, 0, 0) = s.1 (41, 0, 0) := hF.1 _ (by decide)
  rw [em]
  refine wp_istore_n (l' := [_, _, some _, _, _]) dX8_goesDown_5 rfl rfl ?_
  refine wp_iconst (v := 1) dX8_goesDown_6 (by decide) rfl ?_
  refine wp_istore_n (l' := [_, _, _, some _, _]) dX8_goesDown_7 rfl rfl ?_
  refine (l8_gd (d := d + 1) hj m hm s2 _ c r hc (by unfold GdP; rw [hnow]; exact hG) hr13).conseq ?_
  rintro v σ1 ⟨t, rfl, rfl, ht, hF2⟩
  refine ⟨_, rfl, rfl, ?_, (hF.wd (by decide)).tr hF2⟩
  rw [ht, hnow, nI_clamp (by omega)]
end
