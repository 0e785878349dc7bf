/-! THE PURE PART, 28: what a river tells -/
section
variable {d i : Nat}
def jm (f : Fl) : Nat → Int32
  | 0 => 0
  | k + 1 => jm f k + (if nI (mny f (nI k)) < f (21 + k) then 0 else nI (mny f (nI k)))
def afl (f : Fl) : Nat → Int32
  | 0 => 0
  | k + 1 => afl f k ||| (if f (45 + 5 * k + 3) < 12 then 1 <<< (nI k &&& 31) else 0)
def rsm (f : Fl) : Nat → Int32
  | 0 => 0
  | k + 1 => rsm f k + f (45 + 5 * k + 3)
def rdl (f : Fl) (x : Int32) : Nat → Int32
  | 0 => -1000000005
  | k + 1 => if f (45 + 5 * k + 4) = x + 1 then f (45 + 5 * k + 1) else rdl f x k
/-- no two logs came as the same -/
def UQ (f : Fl) (c : Nat) : Prop := ∀ g h, g < c → h < c → f (45 + 5 * g + 4) = f (45 + 5 * h + 4) → f (45 + 5 * g + 4) ≠ 0 → g = h
theorem rdl_no {f : Fl} {x : Int32} : ∀ n, (∀ h, h < n → ¬ f (45 + 5 * h + 4) = x + 1) → rdl f x n = -1000000005
  | 0, _ => rfl
  | n + 1, hn => by rw [rdl, if_neg (hn n (Nat.lt_succ_self n))]; exact rdl_no n (fun h hh => hn h (by omega))
theorem rdl_at {f : Fl} {x : Int32} {g : Nat} (hg : f (45 + 5 * g + 4) = x + 1) : ∀ n, (∀ h, h < n → f (45 + 5 * h + 4) = x + 1 → h = g) → g < n → rdl f x n = f (45 + 5 * g + 1)
  | 0, _, h => absurd h (Nat.not_lt_zero g)
  | n + 1, hn, h => by
    rw [rdl]
    by_cases e : f (45 + 5 * n + 4) = x + 1
    · rw [if_pos e, hn n (Nat.lt_succ_self n) e]
    · rw [if_neg e]
      exact rdl_at hg n (fun q hq => hn q (by omega)) (by by_cases e2 : g = n; exact absurd (e2 ▸ hg) e; omega)
theorem ix_21 {k : Nat} : (21 : Int32) + nI k = nI (21 + k) := by
  rw [show (21 : Int32) = nI 21 from rfl, nI_add]
theorem l8_jam {s : Sn} {c : Nat} (hc12 : c ≤ 12) (hc : s.1 (41, 0, 0) 1 = nI c) : ∀ k, k ≤ 12 → ∀ c3 : Option Av, Wp (d + 2) MX8_jam 4 [some (vR 40 0 0), some (vI (jm (s.1 (41, 0, 0)) k)), some (vI (nI k)), c3] [] (hN s) (Pd (jm (s.1 (41, 0, 0)) 12) s) := by
  refine ind_up (fun k hk ih => ?_)
  intro c3
  refine wp_iload_n dX8_jam_4 rfl rfl ?_
  refine wp_bipush (v := 12) dX8_jam_5 (by decide) rfl ?_
  refine wp_icmp_ge (t := 43) dX8_jam_7 rfl rfl (fun h7 => ?_) (fun h7 => ?_)
  · refine wp_iload_n dX8_jam_43 rfl rfl ?_
    refine wp_iret dX8_jam_44 rfl rfl ?_
    have hk12 : k = 12 := by have := (nI_leI (a := 12) (by omega) (by omega)).mp h7; omega
    rw [hk12]
    exact Pd.mk
  · have hl : k < 12 := by have := mt (nI_leI (a := 12) (by omega) (by omega)).mpr h7; omega
    refine wp_aload_n dX8_jam_10 rfl rfl ?_
    refine wp_iload_n dX8_jam_11 rfl rfl ?_
    refine wn_callV1d dX8_jam_12 rRX8_133 (rcv_of o40 rfl) (Nat.le_of_ble_eq_true rfl) rfl (Nat.le_of_ble_eq_true rfl) rfl (c8_manyAt hc12 hc) ?_
    refine wp_istore_n (l' := [_, _, _, some _]) dX8_jam_15 rfl rfl ?_
    refine wp_iload_n dX8_jam_16 rfl rfl ?_
    refine wp_iload_n dX8_jam_17 rfl rfl ?_
    refine wp_aload_n dX8_jam_18 rfl rfl ?_
    refine wn_getR dX8_jam_19 fRX8_9 o40 rfl rfl rfl ?_
    refine wp_bipush (v := 21) dX8_jam_22 (by decide) rfl ?_
    refine wp_iload_n dX8_jam_24 rfl rfl ?_
    refine wp_iadd dX8_jam_25 rfl ?_
    refine wn_iald dX8_jam_26 (o41 0 rfl) rfl (nIx ix_21 (by omega)) (by show _ < 1477; omega) rfl ?_
    refine wp_icmp_ge (t := 34) dX8_jam_27 rfl rfl (fun h27 => ?_) (fun h27 => ?_)
    · refine wp_iload_n dX8_jam_34 rfl rfl ?_
      refine wp_iadd dX8_jam_35 rfl ?_
      refine wp_istore_n (l' := [_, some _, _, _]) dX8_jam_36 rfl rfl ?_
      refine wp_iinc (l' := [_, _, some _, _]) (v := 1) dX8_jam_37 rfl (by decide) rfl rfl ?_
      refine wp_goto (t := 4) dX8_jam_40 rfl ?_
      have hs : jm (s.1 (41, 0, 0)) (k + 1) = jm (s.1 (41, 0, 0)) k + nI (mny (s.1 (41, 0, 0)) (nI k)) := by
        rw [jm, if_neg (Int32.not_lt.mpr h27)]
      have h := ih hl (some (vI (nI (mny (s.1 (41, 0, 0)) (nI k)))))
      rw [hs] at h
      rw [nI_1]
      exact h
    · refine wp_iconst (v := 0) dX8_jam_30 (by decide) rfl ?_
      refine wp_goto (t := 35) dX8_jam_31 rfl ?_
      refine wp_iadd dX8_jam_35 rfl ?_
      refine wp_istore_n (l' := [_, some _, _, _]) dX8_jam_36 rfl rfl ?_
      refine wp_iinc (l' := [_, _, some _, _]) (v := 1) dX8_jam_37 rfl (by decide) rfl rfl ?_
      refine wp_goto (t := 4) dX8_jam_40 rfl ?_
      have hs : jm (s.1 (41, 0, 0)) (k + 1) = jm (s.1 (41, 0, 0)) k + 0 := by
        rw [jm, if_pos (Int32.not_le.mp h27)]
      have h := ih hl (some (vI (nI (mny (s.1 (41, 0, 0)) (nI k)))))
      rw [hs] at h
      rw [nI_1]
      exact h
theorem c8_jam {s : Sn} {c : Nat} (hc12 : c ≤ 12) (hc : s.1 (41, 0, 0) 1 = nI c) : Ca (d + 2) MX8_jam [vR 40 0 0] (hN s) (Pd (jm (s.1 (41, 0, 0)) 12) s) := by
  change Wp _ _ 0 [some _, none, none, none] [] _ _
  refine wp_iconst (v := 0) dX8_jam_0 (by decide) rfl ?_
  refine wp_istore_n (l' := [_, some _, _, _]) dX8_jam_1 rfl rfl ?_
  refine wp_iconst (v := 0) dX8_jam_2 (by decide) rfl ?_
  refine wp_istore_n (l' := [_, _, some _, _]) dX8_jam_3 rfl rfl ?_
  exact l8_jam hc12 hc 0 (Nat.zero_le _) none
theorem l8_rsm {s : Sn} {c : Nat} (hc12 : c ≤ 12) (hc : s.1 (41, 0, 0) 1 = nI c) : ∀ k, k ≤ c → Wp (d + 1) MX8_allReaches 4 [some (vR 40 0 0), some (vI (rsm (s.1 (41, 0, 0)) k)), some (vI (nI k))] [] (hN s) (Pd (rsm (s.1 (41, 0, 0)) c) s) := by
  refine ind_up (fun k hk ih => ?_)
  refine wp_iload_n dX8_allReaches_4 rfl rfl ?_
  refine wp_aload_n dX8_allReaches_5 rfl rfl ?_
  refine wn_getR dX8_allReaches_6 fRX8_9 o40 rfl rfl rfl ?_
  refine wp_iconst (v := 1) dX8_allReaches_9 (by decide) rfl ?_
  refine wn_iald (j := 1) dX8_allReaches_10 (o41 0 rfl) rfl ⟨by decide, by decide⟩ (Nat.le_of_ble_eq_true rfl) rfl ?_
  rw [hc]
  refine wp_icmp_ge (t := 29) dX8_allReaches_11 rfl rfl (fun h11 => ?_) (fun h11 => ?_)
  · refine wp_iload_n dX8_allReaches_29 rfl rfl ?_
    refine wp_iret dX8_allReaches_30 rfl rfl ?_
    have hk12 : k = c := by have := (nI_leI (by omega) (by omega)).mp h11; omega
    rw [hk12]
    exact Pd.mk
  · have hl : k < c := by have := mt (nI_leI (by omega) (by omega)).mpr h11; omega
    refine wp_iload_n dX8_allReaches_14 rfl rfl ?_
    refine wp_aload_n dX8_allReaches_15 rfl rfl ?_
    refine wp_iload_n dX8_allReaches_16 rfl rfl ?_
    refine wp_iconst (v := 3) dX8_allReaches_17 (by decide) rfl ?_
    refine wn_callV2d dX8_allReaches_18 rRX8_93 (rcv_of o40 rfl) (Nat.le_of_ble_eq_true rfl) rfl rfl (Nat.le_of_ble_eq_true rfl) rfl (c8_of (w := 3) (show k < 12 by omega) (by decide)) ?_
    refine wp_iadd dX8_allReaches_21 rfl ?_
    refine wp_istore_n (l' := [_, some _, _]) dX8_allReaches_22 rfl rfl ?_
    refine wp_iinc (l' := [_, _, some _]) (v := 1) dX8_allReaches_23 rfl (by decide) rfl rfl ?_
    refine wp_goto (t := 4) dX8_allReaches_26 rfl ?_
    rw [nI_1]
    exact ih hl
theorem c8_allReaches {s : Sn} {c : Nat} (hc12 : c ≤ 12) (hc : s.1 (41, 0, 0) 1 = nI c) : Ca (d + 1) MX8_allReaches [vR 40 0 0] (hN s) (Pd (rsm (s.1 (41, 0, 0)) c) s) := by
  change Wp _ _ 0 [some _, none, none] [] _ _
  refine wp_iconst (v := 0) dX8_allReaches_0 (by decide) rfl ?_
  refine wp_istore_n (l' := [_, some _, _]) dX8_allReaches_1 rfl rfl ?_
  refine wp_iconst (v := 0) dX8_allReaches_2 (by decide) rfl ?_
  refine wp_istore_n (l' := [_, _, some _]) dX8_allReaches_3 rfl rfl ?_
  exact l8_rsm hc12 hc 0 (Nat.zero_le _)
theorem l8_afl {s : Sn} {c : Nat} (hc12 : c ≤ 12) (hc : s.1 (41, 0, 0) 1 = nI c) {x : Int32} : ∀ k, k ≤ c → Wp (d + 1) MX8_river 65 [some (vR 40 0 0), some (vI x), some (vI (afl (s.1 (41, 0, 0)) k)), some (vI (nI k))] [] (hN s) (Pd (afl (s.1 (41, 0, 0)) c) s) := by
  refine ind_up (fun k hk ih => ?_)
  refine wp_iload_n dX8_river_65 rfl rfl ?_
  refine wp_aload_n dX8_river_66 rfl rfl ?_
  refine wn_getR dX8_river_67 fRX8_9 o40 rfl rfl rfl ?_
  refine wp_iconst (v := 1) dX8_river_70 (by decide) rfl ?_
  refine wn_iald (j := 1) dX8_river_71 (o41 0 rfl) rfl ⟨by decide, by decide⟩ (Nat.le_of_ble_eq_true rfl) rfl ?_
  rw [hc]
  refine wp_icmp_ge (t := 102) dX8_river_72 rfl rfl (fun h72 => ?_) (fun h72 => ?_)
  · refine wp_iload_n dX8_river_102 rfl rfl ?_
    refine wp_iret dX8_river_103 rfl rfl ?_
    have hk12 : k = c := by have := (nI_leI (by omega) (by omega)).mp h72; omega
    rw [hk12]
    exact Pd.mk
  · have hl : k < c := by have := mt (nI_leI (by omega) (by omega)).mpr h72; omega
    refine wp_iload_n dX8_river_75 rfl rfl ?_
    refine wp_aload_n dX8_river_76 rfl rfl ?_
    refine wp_iload_n dX8_river_77 rfl rfl ?_
    refine wp_iconst (v := 3) dX8_river_78 (by decide) rfl ?_
    refine wn_callV2d dX8_river_79 rRX8_93 (rcv_of o40 rfl) (Nat.le_of_ble_eq_true rfl) rfl rfl (Nat.le_of_ble_eq_true rfl) rfl (c8_of (w := 3) (show k < 12 by omega) (by decide)) ?_
    refine wp_bipush (v := 12) dX8_river_82 (by decide) rfl ?_
    refine wp_icmp_ge (t := 93) dX8_river_84 rfl rfl (fun h84 => ?_) (fun h84 => ?_)
    · refine wp_iconst (v := 0) dX8_river_93 (by decide) rfl ?_
      refine wp_ior dX8_river_94 rfl ?_
      refine wp_istore_n (l' := [_, _, some _, _]) dX8_river_95 rfl rfl ?_
      refine wp_iinc (l' := [_, _, _, some _]) (v := 1) dX8_river_96 rfl (by decide) rfl rfl ?_
      refine wp_goto (t := 65) dX8_river_99 rfl ?_
      have hs : afl (s.1 (41, 0, 0)) (k + 1) = afl (s.1 (41, 0, 0)) k ||| 0 := by
        rw [afl, if_neg (Int32.not_lt.mpr h84)]
      have h := ih hl
      rw [hs] at h
      rw [nI_1]
      exact h
    · refine wp_iconst (v := 1) dX8_river_87 (by decide) rfl ?_
      refine wp_iload_n dX8_river_88 rfl rfl ?_
      refine wp_ishl dX8_river_89 rfl ?_
      refine wp_goto (t := 94) dX8_river_90 rfl ?_
      refine wp_ior dX8_river_94 rfl ?_
      refine wp_istore_n (l' := [_, _, some _, _]) dX8_river_95 rfl rfl ?_
      refine wp_iinc (l' := [_, _, _, some _]) (v := 1) dX8_river_96 rfl (by decide) rfl rfl ?_
      refine wp_goto (t := 65) dX8_river_99 rfl ?_
      have hs : afl (s.1 (41, 0, 0)) (k + 1) = afl (s.1 (41, 0, 0)) k ||| 1 <<< (nI k &&& 31) := by
        rw [afl, if_pos (Int32.not_le.mp h84)]
      have h := ih hl
      rw [hs] at h
      rw [nI_1]
      exact h
theorem l8_rdl {s : Sn} {c : Nat} (hc12 : c ≤ 12) (hc : s.1 (41, 0, 0) 1 = nI c) {x : Int32} : ∀ k, k ≤ c → Wp (d + 1) MX8_read 29 [some (vR 40 0 0), some (vI x), some (vI (rdl (s.1 (41, 0, 0)) x k)), some (vI (nI k))] [] (hN s) (Pd (rdl (s.1 (41, 0, 0)) x c) s) := by
  refine ind_up (fun k hk ih => ?_)
  refine wp_iload_n dX8_read_29 rfl rfl ?_
  refine wp_aload_n dX8_read_30 rfl rfl ?_
  refine wn_getR dX8_read_31 fRX8_9 o40 rfl rfl rfl ?_
  refine wp_iconst (v := 1) dX8_read_34 (by decide) rfl ?_
  refine wn_iald (j := 1) dX8_read_35 (o41 0 rfl) rfl ⟨by decide, by decide⟩ (Nat.le_of_ble_eq_true rfl) rfl ?_
  rw [hc]
  refine wp_icmp_ge (t := 68) dX8_read_36 rfl rfl (fun h36 => ?_) (fun h36 => ?_)
  · refine wp_iload_n dX8_read_68 rfl rfl ?_
    refine wp_iret dX8_read_69 rfl rfl ?_
    have hk12 : k = c := by have := (nI_leI (by omega) (by omega)).mp h36; omega
    rw [hk12]
    exact Pd.mk
  · have hl : k < c := by have := mt (nI_leI (by omega) (by omega)).mpr h36; omega
    refine wp_aload_n dX8_read_39 rfl rfl ?_
    refine wp_iload_n dX8_read_40 rfl rfl ?_
    refine wp_iconst (v := 4) dX8_read_41 (by decide) rfl ?_
    refine wn_callV2d dX8_read_42 rRX8_93 (rcv_of o40 rfl) (Nat.le_of_ble_eq_true rfl) rfl rfl (Nat.le_of_ble_eq_true rfl) rfl (c8_of (w := 4) (show k < 12 by omega) (by decide)) ?_
    refine wp_iload_n dX8_read_45 rfl rfl ?_
    refine wp_iconst (v := 1) dX8_read_46 (by decide) rfl ?_
    refine wp_iadd dX8_read_47 rfl ?_
    refine wp_icmp_ne (t := 60) dX8_read_48 rfl rfl (fun h48 => ?_) (fun h48 => ?_)
    · refine wp_iload_n dX8_read_60 rfl rfl ?_
      refine wp_istore_n (l' := [_, _, some _, _]) dX8_read_61 rfl rfl ?_
      refine wp_iinc (l' := [_, _, _, some _]) (v := 1) dX8_read_62 rfl (by decide) rfl rfl ?_
      refine wp_goto (t := 29) dX8_read_65 rfl ?_
      have hs : rdl (s.1 (41, 0, 0)) x (k + 1) = rdl (s.1 (41, 0, 0)) x k := by
        rw [rdl, if_neg h48]
      have h := ih hl
      rw [hs] at h
      rw [nI_1]
      exact h
    · refine wp_aload_n dX8_read_51 rfl rfl ?_
      refine wp_iload_n dX8_read_52 rfl rfl ?_
      refine wp_iconst (v := 1) dX8_read_53 (by decide) rfl ?_
      refine wn_callV2d dX8_read_54 rRX8_93 (rcv_of o40 rfl) (Nat.le_of_ble_eq_true rfl) rfl rfl (Nat.le_of_ble_eq_true rfl) rfl (c8_of (w := 1) (show k < 12 by omega) (by decide)) ?_
      refine wp_goto (t := 61) dX8_read_57 rfl ?_
      refine wp_istore_n (l' := [_, _, some _, _]) dX8_read_61 rfl rfl ?_
      refine wp_iinc (l' := [_, _, _, some _]) (v := 1) dX8_read_62 rfl (by decide) rfl rfl ?_
      refine wp_goto (t := 29) dX8_read_65 rfl ?_
      have hs : rdl (s.1 (41, 0, 0)) x (k + 1) = (s.1 (41, 0, 0)) (45 + 5 * k + 1) := by
        rw [rdl, if_pos h48]
      have h := ih hl
      rw [hs] at h
      rw [nI_1]
      exact h
end
