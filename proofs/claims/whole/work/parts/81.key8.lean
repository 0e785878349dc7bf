/-! THE PURE PART, 62: the reference takes a key; small readers -/
section
variable {d i j : Nat}
def kc : Nat → Int32 := fun k => [100, 114, 105, 102, 116, 102, 101, 101, 102, 105, 110, 101].getD k 0
/-- the keys' letters and their places -/
def KY (s : Sn) : Prop := (∀ k, k < 12 → s.1 (42, 0, 0) k = kc k) ∧ s.1 (41, 6, 0) 0 = 0 ∧ s.1 (41, 6, 0) 1 = 5 ∧ s.1 (41, 6, 0) 2 = 8 ∧ s.1 (41, 6, 0) 3 = 12
abbrev kyM (tp : Fl) (f m o l : Nat) : Prop := m - f = l ∧ ∀ k, k < l → tp (f + k) = kc (o + k)
def kyE (tp : Fl) (f m : Nat) : Nat := if kyM tp f m 0 5 then 0 else if kyM tp f m 5 3 then 1 else if kyM tp f m 8 4 then 2 else 3
def KR (tp : Fl) (n f m : Nat) (s : Sn) (y : Int32) (t : Sn) : Prop := (kyE tp f m = 3 → y = 0 ∧ t = s) ∧ (kyE tp f m < 3 → y = 1 ∧ GO tp n m (upd (s.1 (40, 0, 0)) 12 (nI (kyE tp f m))) (t.1 (40, 0, 0)) ∧ Fr [(40, 0, 0)] s t)
theorem l8_ky {s : Sn} {tp : Fl} {n f m v o l : Nat} {P : Option Av → St → Prop} (hn : n ≤ 96) (ht : s.1 (41, 4, 0) = tp) (h8 : s.1 (40, 0, 0) 8 = nI f) (hfm : f < m) (hmn : m ≤ n) (hv : v < 3) (hl5 : l ≤ 5) (hol : o + l ≤ 12) (ho : s.1 (41, 6, 0) v = nI o) (hK : KY s) (hlm : l = m - f) (kk1 : (∀ k, k < l → tp (f + k) = kc (o + k)) → ∀ c4, Wp (d + 2) MX8_takesKey 106 [some (vR 40 0 0), some (vI (nI v)), some (vI (nI l)), some (vI 1), some (vI c4)] [] (hN s) P) (kk0 : ¬ (∀ k, k < l → tp (f + k) = kc (o + k)) → ∀ c4, Wp (d + 2) MX8_takesKey 106 [some (vR 40 0 0), some (vI (nI v)), some (vI (nI l)), some (vI 0), some (vI c4)] [] (hN s) P) : ∀ k, k ≤ l → (∀ q, q < k → tp (f + q) = kc (o + q)) → Wp (d + 2) MX8_takesKey 55 [some (vR 40 0 0), some (vI (nI v)), some (vI (nI l)), some (vI 1), some (vI (nI k))] [] (hN s) P := by
  refine ind_up (fun k hk ih => ?_)
  intro hq
  refine wp_iload dX8_takesKey_55 rfl rfl ?_
  refine wp_iload_n dX8_takesKey_57 rfl rfl ?_
  refine wp_icmp_ge (t := 106) dX8_takesKey_58 rfl rfl (fun h58 => ?_) (fun h58 => ?_)
  · have hk2 : k = l := by have := (nI_leI (by omega) (by omega)).mp h58; omega
    exact kk1 (hk2 ▸ hq) _
  · have hl : k < l := by have := mt (nI_leI (by omega) (by omega)).mpr h58; omega
    refine wp_iload_n dX8_takesKey_61 rfl rfl ?_
    refine wp_if_eq (t := 106) dX8_takesKey_62 rfl rfl (fun h62 => absurd h62 (by decide)) (fun h62 => ?_)
    refine wp_aload_n dX8_takesKey_65 rfl rfl ?_
    refine wn_getR dX8_takesKey_66 fRX8_22 o40 rfl rfl rfl ?_
    refine wp_aload_n dX8_takesKey_69 rfl rfl ?_
    refine wn_getI dX8_takesKey_70 fRX8_183 o40 rfl rfl ?_
    refine wp_iload dX8_takesKey_73 rfl rfl ?_
    refine wp_iadd dX8_takesKey_75 rfl ?_
    rw [h8, nI_add]
    refine wn_iald dX8_takesKey_76 (o41 4 rfl) rfl (nIx rfl (by omega)) (show f + k < 96 by omega) rfl ?_
    rw [ht]
    refine wp_aload_n dX8_takesKey_77 rfl rfl ?_
    refine wn_getR dX8_takesKey_78 fRX8_25 o40 rfl rfl rfl ?_
    refine wp_aload_n dX8_takesKey_81 rfl rfl ?_
    refine wn_getR dX8_takesKey_82 fRX8_29 o40 rfl rfl rfl ?_
    refine wp_iload_n dX8_takesKey_85 rfl rfl ?_
    refine wn_iald dX8_takesKey_86 (o41 6 rfl) rfl (nIx rfl (by omega)) (show v < 4 by omega) rfl ?_
    refine wp_iload dX8_takesKey_87 rfl rfl ?_
    refine wp_iadd dX8_takesKey_89 rfl ?_
    rw [ho, nI_add]
    refine wn_cald dX8_takesKey_90 o42 rfl (nIx rfl (by omega)) (show o + k < 12 by omega) rfl ?_
    rw [hK.1 (o + k) (by omega)]
    refine wp_icmp_ne (t := 98) dX8_takesKey_91 rfl rfl (fun h91 => ?_) (fun h91 => ?_)
    · refine wp_iconst (v := 0) dX8_takesKey_98 (by decide) rfl ?_
      refine wp_istore_n (l' := [_, _, _, some _, _]) dX8_takesKey_99 rfl rfl ?_
      refine wp_iinc (l' := [_, _, _, _, some _]) (v := 1) dX8_takesKey_100 rfl (by decide) rfl rfl ?_
      refine wp_goto (t := 55) dX8_takesKey_103 rfl ?_
      rw [nI_1]
      refine wp_iload dX8_takesKey_55 rfl rfl ?_
      refine wp_iload_n dX8_takesKey_57 rfl rfl ?_
      refine wp_icmp_ge (t := 106) dX8_takesKey_58 rfl rfl (fun h58 => ?_) (fun h58 => ?_)
      · exact kk0 (fun z => h91 (z k hl)) _
      · refine wp_iload_n dX8_takesKey_61 rfl rfl ?_
        refine wp_if_eq (t := 106) dX8_takesKey_62 rfl rfl (fun h62 => ?_) (fun h62 => absurd rfl h62)
        exact kk0 (fun z => h91 (z k hl)) _
    · refine wp_iconst (v := 1) dX8_takesKey_94 (by decide) rfl ?_
      refine wp_goto (t := 99) dX8_takesKey_95 rfl ?_
      refine wp_istore_n (l' := [_, _, _, some _, _]) dX8_takesKey_99 rfl rfl ?_
      refine wp_iinc (l' := [_, _, _, _, some _]) (v := 1) dX8_takesKey_100 rfl (by decide) rfl rfl ?_
      refine wp_goto (t := 55) dX8_takesKey_103 rfl ?_
      rw [nI_1]
      refine ih hl (fun q hq2 => ?_)
      by_cases e : q = k
      · rw [e]; exact h91
      · exact hq q (by omega)
theorem l8_tk1 {s : Sn} {tp : Fl} {n f m v o l : Nat} {P : Option Av → St → Prop} (hn : n ≤ 96) (ht : s.1 (41, 4, 0) = tp) (h8 : s.1 (40, 0, 0) 8 = nI f) (hfm : f < m) (hmn : m ≤ n) (hv : v < 3) (hl5 : l ≤ 5) (hol : o + l ≤ 12) (ho : s.1 (41, 6, 0) v = nI o) (hK : KY s) (hl0 : 0 < l) (ho2 : s.1 (41, 6, 0) (v + 1) = nI (o + l)) (h7 : s.1 (40, 0, 0) 7 = nI m) (kk1 : kyM tp f m o l → ∀ c4, Wp (d + 2) MX8_takesKey 106 [some (vR 40 0 0), some (vI (nI v)), some (vI (nI l)), some (vI 1), some (vI c4)] [] (hN s) P) (kk0 : ¬ kyM tp f m o l → ∀ c4, Wp (d + 2) MX8_takesKey 106 [some (vR 40 0 0), some (vI (nI v)), some (vI (nI l)), some (vI 0), some (vI c4)] [] (hN s) P) {c2 c3 c4 : Option Av} : Wp (d + 2) MX8_takesKey 12 [some (vR 40 0 0), some (vI (nI v)), c2, c3, c4] [] (hN s) P := by
  refine wp_iload_n dX8_takesKey_12 rfl rfl ?_
  refine wp_iconst (v := 3) dX8_takesKey_13 (by decide) rfl ?_
  refine wp_icmp_ge (t := 127) dX8_takesKey_14 rfl rfl (fun h14 => absurd ((nI_leI (a := 3) (by decide) (by omega)).mp h14) (by omega)) (fun h14 => ?_)
  refine wp_aload_n dX8_takesKey_17 rfl rfl ?_
  refine wn_getR dX8_takesKey_18 fRX8_29 o40 rfl rfl rfl ?_
  refine wp_iload_n dX8_takesKey_21 rfl rfl ?_
  refine wp_iconst (v := 1) dX8_takesKey_22 (by decide) rfl ?_
  refine wp_iadd dX8_takesKey_23 rfl ?_
  rw [nI_1]
  refine wn_iald dX8_takesKey_24 (o41 6 rfl) rfl (nIx rfl (by omega)) (show v + 1 < 4 by omega) rfl ?_
  rw [ho2]
  refine wp_aload_n dX8_takesKey_25 rfl rfl ?_
  refine wn_getR dX8_takesKey_26 fRX8_29 o40 rfl rfl rfl ?_
  refine wp_iload_n dX8_takesKey_29 rfl rfl ?_
  refine wn_iald dX8_takesKey_30 (o41 6 rfl) rfl (nIx rfl (by omega)) (show v < 4 by omega) rfl ?_
  refine wp_isub dX8_takesKey_31 rfl ?_
  rw [ho, nI_subn (by omega), show o + l - o = l by omega]
  refine wp_istore_n (l' := [_, _, some _, _, _]) dX8_takesKey_32 rfl rfl ?_
  refine wp_iload_n dX8_takesKey_33 rfl rfl ?_
  refine wp_aload_n dX8_takesKey_34 rfl rfl ?_
  refine wn_getI dX8_takesKey_35 fRX8_180 o40 rfl rfl ?_
  rw [h7]
  refine wp_aload_n dX8_takesKey_38 rfl rfl ?_
  refine wn_getI dX8_takesKey_39 fRX8_183 o40 rfl rfl ?_
  refine wp_isub dX8_takesKey_42 rfl ?_
  rw [h8, nI_subn (by omega)]
  refine wp_icmp_ne (t := 50) dX8_takesKey_43 rfl rfl (fun h43 => ?_) (fun h43 => ?_)
  · refine wp_iconst (v := 0) dX8_takesKey_50 (by decide) rfl ?_
    refine wp_istore_n (l' := [_, _, _, some _, _]) dX8_takesKey_51 rfl rfl ?_
    refine wp_iconst (v := 0) dX8_takesKey_52 (by decide) rfl ?_
    refine wp_istore (l' := [_, _, _, _, some _]) dX8_takesKey_53 rfl rfl ?_
    refine wp_iload dX8_takesKey_55 rfl rfl ?_
    refine wp_iload_n dX8_takesKey_57 rfl rfl ?_
    refine wp_icmp_ge (t := 106) dX8_takesKey_58 rfl rfl (fun h58 => absurd ((nI_leI (b := 0) (by omega) (by decide)).mp h58) (by omega)) (fun h58 => ?_)
    refine wp_iload_n dX8_takesKey_61 rfl rfl ?_
    refine wp_if_eq (t := 106) dX8_takesKey_62 rfl rfl (fun h62 => ?_) (fun h62 => absurd rfl h62)
    exact kk0 (fun z => h43 (by rw [z.1])) _
  · refine wp_iconst (v := 1) dX8_takesKey_46 (by decide) rfl ?_
    refine wp_goto (t := 51) dX8_takesKey_47 rfl ?_
    refine wp_istore_n (l' := [_, _, _, some _, _]) dX8_takesKey_51 rfl rfl ?_
    refine wp_iconst (v := 0) dX8_takesKey_52 (by decide) rfl ?_
    refine wp_istore (l' := [_, _, _, _, some _]) dX8_takesKey_53 rfl rfl ?_
    have hlm : l = m - f := (nI_eq (by omega) (by omega)).mp h43
    exact l8_ky hn ht h8 hfm hmn hv hl5 hol ho hK hlm (fun z => kk1 ⟨hlm.symm, z⟩) (fun z => kk0 (fun q => z q.2)) 0 (Nat.zero_le _) (fun q hq => absurd hq (Nat.not_lt_zero q))
theorem c8_takesKey {s : Sn} {tp : Fl} {n f m : Nat} (hn : n ≤ 96) (ht : s.1 (41, 4, 0) = tp) (h6 : s.1 (40, 0, 0) 6 = nI n) (h7 : s.1 (40, 0, 0) 7 = nI m) (h8 : s.1 (40, 0, 0) 8 = nI f) (h9 : s.1 (40, 0, 0) 9 = 1) (hfm : f < m) (hmn : m ≤ n) (hK : KY s) : Ca (d + 2) MX8_takesKey [vR 40 0 0] (hN s) (Pv fun y t => KR tp n f m s y t) := by
  change Wp _ _ 0 [some _, none, none, none, none] [] _ _
  refine wp_aload_n dX8_takesKey_0 rfl rfl ?_
  refine wn_getI dX8_takesKey_1 fRX8_189 o40 rfl rfl ?_
  refine wp_iconst (v := 1) dX8_takesKey_4 (by decide) rfl ?_
  refine wp_icmp_eq (t := 10) dX8_takesKey_5 rfl rfl (fun h5 => ?_) (fun h5 => absurd h9 h5)
  refine wp_iconst (v := 0) dX8_takesKey_10 (by decide) rfl ?_
  refine wp_istore_n (l' := [_, some _, _, _, _]) dX8_takesKey_11 rfl rfl ?_
  refine l8_tk1 (v := 0) (o := 0) (l := 5) hn ht h8 hfm hmn (by decide) (by decide) (by decide) hK.2.1 hK (by decide) hK.2.2.1 h7 (fun z0 c4 => ?_) (fun z0 c4 => ?_)
  · refine wp_iload_n dX8_takesKey_106 rfl rfl ?_
    refine wp_if_eq (t := 121) dX8_takesKey_107 rfl rfl (fun h107 => absurd h107 (by decide)) (fun h107 => ?_)
    refine wp_aload_n dX8_takesKey_110 rfl rfl ?_
    refine wp_iload_n dX8_takesKey_111 rfl rfl ?_
    refine wn_putI dX8_takesKey_112 fRX8_201 o40 rfl rfl rfl ?_
    refine wp_aload_n dX8_takesKey_115 rfl rfl ?_
    refine wn_callV0n dX8_takesKey_116 rRX8_204 (rcv_of o40 rfl) (Nat.le_of_ble_eq_true rfl)  (Nat.le_of_ble_eq_true rfl) rfl (c8_go (tp := tp) (n := n) (k := m) hn hmn (by rw [sI_nr (by decide)]; exact ht) (by rw [sI_nk (by decide)]; exact h6) (by rw [sI_nk (by decide)]; exact h7)) (fun s116 hq116 => ?_)
    obtain ⟨g116, hF116⟩ := hq116
    rw [sI_row] at g116
    refine wp_iconst (v := 1) dX8_takesKey_119 (by decide) rfl ?_
    refine wp_iret dX8_takesKey_120 rfl (by decide) ?_
    have hE : kyE tp f m = 0 := by unfold kyE; rw [if_pos z0]
    refine ⟨_, _, rfl, rfl, ?_, ?_⟩
    · rw [hE]; intro z; exact absurd z (by decide)
    · rw [hE]; intro _; exact ⟨rfl, g116, (Fr.rf.pt (by decide)).tr hF116⟩
  · refine wp_iload_n dX8_takesKey_106 rfl rfl ?_
    refine wp_if_eq (t := 121) dX8_takesKey_107 rfl rfl (fun h107 => ?_) (fun h107 => absurd rfl h107)
    refine wp_iinc (l' := [_, some _, _, _, _]) (v := 1) dX8_takesKey_121 rfl (by decide) rfl rfl ?_
    refine wp_goto (t := 12) dX8_takesKey_124 rfl ?_
    rw [nI_1]
    refine l8_tk1 (v := 1) (o := 5) (l := 3) hn ht h8 hfm hmn (by decide) (by decide) (by decide) hK.2.2.1 hK (by decide) hK.2.2.2.1 h7 (fun z1 c4 => ?_) (fun z1 c4 => ?_)
    · refine wp_iload_n dX8_takesKey_106 rfl rfl ?_
      refine wp_if_eq (t := 121) dX8_takesKey_107 rfl rfl (fun h107 => absurd h107 (by decide)) (fun h107 => ?_)
      refine wp_aload_n dX8_takesKey_110 rfl rfl ?_
      refine wp_iload_n dX8_takesKey_111 rfl rfl ?_
      refine wn_putI dX8_takesKey_112 fRX8_201 o40 rfl rfl rfl ?_
      refine wp_aload_n dX8_takesKey_115 rfl rfl ?_
      refine wn_callV0n dX8_takesKey_116 rRX8_204 (rcv_of o40 rfl) (Nat.le_of_ble_eq_true rfl)  (Nat.le_of_ble_eq_true rfl) rfl (c8_go (tp := tp) (n := n) (k := m) hn hmn (by rw [sI_nr (by decide)]; exact ht) (by rw [sI_nk (by decide)]; exact h6) (by rw [sI_nk (by decide)]; exact h7)) (fun s116 hq116 => ?_)
      obtain ⟨g116, hF116⟩ := hq116
      rw [sI_row] at g116
      refine wp_iconst (v := 1) dX8_takesKey_119 (by decide) rfl ?_
      refine wp_iret dX8_takesKey_120 rfl (by decide) ?_
      have hE : kyE tp f m = 1 := by unfold kyE; rw [if_neg z0, if_pos z1]
      refine ⟨_, _, rfl, rfl, ?_, ?_⟩
      · rw [hE]; intro z; exact absurd z (by decide)
      · rw [hE]; intro _; exact ⟨rfl, g116, (Fr.rf.pt (by decide)).tr hF116⟩
    · refine wp_iload_n dX8_takesKey_106 rfl rfl ?_
      refine wp_if_eq (t := 121) dX8_takesKey_107 rfl rfl (fun h107 => ?_) (fun h107 => absurd rfl h107)
      refine wp_iinc (l' := [_, some _, _, _, _]) (v := 1) dX8_takesKey_121 rfl (by decide) rfl rfl ?_
      refine wp_goto (t := 12) dX8_takesKey_124 rfl ?_
      rw [nI_1]
      refine l8_tk1 (v := 2) (o := 8) (l := 4) hn ht h8 hfm hmn (by decide) (by decide) (by decide) hK.2.2.2.1 hK (by decide) hK.2.2.2.2 h7 (fun z2 c4 => ?_) (fun z2 c4 => ?_)
      · refine wp_iload_n dX8_takesKey_106 rfl rfl ?_
        refine wp_if_eq (t := 121) dX8_takesKey_107 rfl rfl (fun h107 => absurd h107 (by decide)) (fun h107 => ?_)
        refine wp_aload_n dX8_takesKey_110 rfl rfl ?_
        refine wp_iload_n dX8_takesKey_111 rfl rfl ?_
        refine wn_putI dX8_takesKey_112 fRX8_201 o40 rfl rfl rfl ?_
        refine wp_aload_n dX8_takesKey_115 rfl rfl ?_
        refine wn_callV0n dX8_takesKey_116 rRX8_204 (rcv_of o40 rfl) (Nat.le_of_ble_eq_true rfl)  (Nat.le_of_ble_eq_true rfl) rfl (c8_go (tp := tp) (n := n) (k := m) hn hmn (by rw [sI_nr (by decide)]; exact ht) (by rw [sI_nk (by decide)]; exact h6) (by rw [sI_nk (by decide)]; exact h7)) (fun s116 hq116 => ?_)
        obtain ⟨g116, hF116⟩ := hq116
        rw [sI_row] at g116
        refine wp_iconst (v := 1) dX8_takesKey_119 (by decide) rfl ?_
        refine wp_iret dX8_takesKey_120 rfl (by decide) ?_
        have hE : kyE tp f m = 2 := by unfold kyE; rw [if_neg z0, if_neg z1, if_pos z2]
        refine ⟨_, _, rfl, rfl, ?_, ?_⟩
        · rw [hE]; intro z; exact absurd z (by decide)
        · rw [hE]; intro _; exact ⟨rfl, g116, (Fr.rf.pt (by decide)).tr hF116⟩
      · refine wp_iload_n dX8_takesKey_106 rfl rfl ?_
        refine wp_if_eq (t := 121) dX8_takesKey_107 rfl rfl (fun h107 => ?_) (fun h107 => absurd rfl h107)
        refine wp_iinc (l' := [_, some _, _, _, _]) (v := 1) dX8_takesKey_121 rfl (by decide) rfl rfl ?_
        refine wp_goto (t := 12) dX8_takesKey_124 rfl ?_
        rw [nI_1]
        refine wp_iload_n dX8_takesKey_12 rfl rfl ?_
        refine wp_iconst (v := 3) dX8_takesKey_13 (by decide) rfl ?_
        refine wp_icmp_ge (t := 127) dX8_takesKey_14 rfl rfl (fun h14 => ?_) (fun h14 => absurd (by decide) h14)
        refine wp_iconst (v := 0) dX8_takesKey_127 (by decide) rfl ?_
        refine wp_iret dX8_takesKey_128 rfl (by decide) ?_
        have hE : kyE tp f m = 3 := by unfold kyE; rw [if_neg z0, if_neg z1, if_neg z2]
        refine ⟨_, _, rfl, rfl, ?_, ?_⟩
        · intro _; exact ⟨rfl, rfl⟩
        · rw [hE]; intro z; exact absurd z (by decide)
theorem c8_takesKeyN {s : Sn} (h9 : ¬ s.1 (40, 0, 0) 9 = 1) : Ca (d + 2) MX8_takesKey [vR 40 0 0] (hN s) (Pd 0 s) := by
  change Wp _ _ 0 [some _, none, none, none, none] [] _ _
  refine wp_aload_n dX8_takesKey_0 rfl rfl ?_
  refine wn_getI dX8_takesKey_1 fRX8_189 o40 rfl rfl ?_
  refine wp_iconst (v := 1) dX8_takesKey_4 (by decide) rfl ?_
  refine wp_icmp_eq (t := 10) dX8_takesKey_5 rfl rfl (fun h5 => absurd h5 h9) (fun h5 => ?_)
  refine wp_iconst (v := 0) dX8_takesKey_8 (by decide) rfl ?_
  refine wp_iret dX8_takesKey_9 rfl (by decide) ?_
  exact Pd.mk
def nmO (k x : Int32) : Int32 := if k = 0 then (if x = 102 then 0 else if x = 109 then 1 else if x = 114 then 2 else -1) else if k = 1 then (if x = 115 then 0 else if x = 119 then 1 else -1) else (if x = 108 then 0 else if x = 109 then 1 else -1)
theorem c8_nameOf {s : Sn} {x : Int32} : Ca d MX8_nameOf [vR 40 0 0, vI x] (hN s) (Pd (nmO (s.1 (40, 0, 0) 12) x) s) := by
  change Wp _ _ 0 [some _, some _] [] _ _
  refine wp_aload_n dX8_nameOf_0 rfl rfl ?_
  refine wn_getI dX8_nameOf_1 fRX8_201 o40 rfl rfl ?_
  refine wp_lsw2 (c0 := 0) (c1 := 1) (t0 := 32) (t1 := 64) (t := 86) dX8_nameOf_4 rfl (by decide) (by decide) (by decide) (by decide) (by decide) rfl rfl rfl (fun k4 => ?_) (fun k4 => ?_) (fun n4_0 n4_1 => ?_)
  · refine wp_iload_n dX8_nameOf_32 rfl rfl ?_
    refine wp_bipush (v := 102) dX8_nameOf_33 (by decide) rfl ?_
    refine wp_icmp_ne (t := 42) dX8_nameOf_35 rfl rfl (fun h35 => ?_) (fun h35 => ?_)
    · refine wp_iload_n dX8_nameOf_42 rfl rfl ?_
      refine wp_bipush (v := 109) dX8_nameOf_43 (by decide) rfl ?_
      refine wp_icmp_ne (t := 52) dX8_nameOf_45 rfl rfl (fun h45 => ?_) (fun h45 => ?_)
      · refine wp_iload_n dX8_nameOf_52 rfl rfl ?_
        refine wp_bipush (v := 114) dX8_nameOf_53 (by decide) rfl ?_
        refine wp_icmp_ne (t := 62) dX8_nameOf_55 rfl rfl (fun h55 => ?_) (fun h55 => ?_)
        · refine wp_iconst (v := (-1)) dX8_nameOf_62 (by decide) rfl ?_
          refine wp_iret dX8_nameOf_63 rfl rfl ?_
          refine ⟨_, _, rfl, rfl, ?_, rfl⟩
          unfold nmO
          rw [if_pos k4, if_neg h35, if_neg h45, if_neg h55]
        · refine wp_iconst (v := 2) dX8_nameOf_58 (by decide) rfl ?_
          refine wp_goto (t := 63) dX8_nameOf_59 rfl ?_
          refine wp_iret dX8_nameOf_63 rfl rfl ?_
          refine ⟨_, _, rfl, rfl, ?_, rfl⟩
          unfold nmO
          rw [if_pos k4, if_neg h35, if_neg h45, if_pos h55]
      · refine wp_iconst (v := 1) dX8_nameOf_48 (by decide) rfl ?_
        refine wp_goto (t := 63) dX8_nameOf_49 rfl ?_
        refine wp_iret dX8_nameOf_63 rfl rfl ?_
        refine ⟨_, _, rfl, rfl, ?_, rfl⟩
        unfold nmO
        rw [if_pos k4, if_neg h35, if_pos h45]
    · refine wp_iconst (v := 0) dX8_nameOf_38 (by decide) rfl ?_
      refine wp_goto (t := 63) dX8_nameOf_39 rfl ?_
      refine wp_iret dX8_nameOf_63 rfl rfl ?_
      refine ⟨_, _, rfl, rfl, ?_, rfl⟩
      unfold nmO
      rw [if_pos k4, if_pos h35]
  · refine wp_iload_n dX8_nameOf_64 rfl rfl ?_
    refine wp_bipush (v := 115) dX8_nameOf_65 (by decide) rfl ?_
    refine wp_icmp_ne (t := 74) dX8_nameOf_67 rfl rfl (fun h67 => ?_) (fun h67 => ?_)
    · refine wp_iload_n dX8_nameOf_74 rfl rfl ?_
      refine wp_bipush (v := 119) dX8_nameOf_75 (by decide) rfl ?_
      refine wp_icmp_ne (t := 84) dX8_nameOf_77 rfl rfl (fun h77 => ?_) (fun h77 => ?_)
      · refine wp_iconst (v := (-1)) dX8_nameOf_84 (by decide) rfl ?_
        refine wp_iret dX8_nameOf_85 rfl rfl ?_
        refine ⟨_, _, rfl, rfl, ?_, rfl⟩
        unfold nmO
        rw [if_neg (by rw [k4]; decide), if_pos k4, if_neg h67, if_neg h77]
      · refine wp_iconst (v := 1) dX8_nameOf_80 (by decide) rfl ?_
        refine wp_goto (t := 85) dX8_nameOf_81 rfl ?_
        refine wp_iret dX8_nameOf_85 rfl rfl ?_
        refine ⟨_, _, rfl, rfl, ?_, rfl⟩
        unfold nmO
        rw [if_neg (by rw [k4]; decide), if_pos k4, if_neg h67, if_pos h77]
    · refine wp_iconst (v := 0) dX8_nameOf_70 (by decide) rfl ?_
      refine wp_goto (t := 85) dX8_nameOf_71 rfl ?_
      refine wp_iret dX8_nameOf_85 rfl rfl ?_
      refine ⟨_, _, rfl, rfl, ?_, rfl⟩
      unfold nmO
      rw [if_neg (by rw [k4]; decide), if_pos k4, if_pos h67]
  · refine wp_iload_n dX8_nameOf_86 rfl rfl ?_
    refine wp_bipush (v := 108) dX8_nameOf_87 (by decide) rfl ?_
    refine wp_icmp_ne (t := 96) dX8_nameOf_89 rfl rfl (fun h89 => ?_) (fun h89 => ?_)
    · refine wp_iload_n dX8_nameOf_96 rfl rfl ?_
      refine wp_bipush (v := 109) dX8_nameOf_97 (by decide) rfl ?_
      refine wp_icmp_ne (t := 106) dX8_nameOf_99 rfl rfl (fun h99 => ?_) (fun h99 => ?_)
      · refine wp_iconst (v := (-1)) dX8_nameOf_106 (by decide) rfl ?_
        refine wp_iret dX8_nameOf_107 rfl rfl ?_
        refine ⟨_, _, rfl, rfl, ?_, rfl⟩
        unfold nmO
        rw [if_neg n4_0, if_neg n4_1, if_neg h89, if_neg h99]
      · refine wp_iconst (v := 1) dX8_nameOf_102 (by decide) rfl ?_
        refine wp_goto (t := 107) dX8_nameOf_103 rfl ?_
        refine wp_iret dX8_nameOf_107 rfl rfl ?_
        refine ⟨_, _, rfl, rfl, ?_, rfl⟩
        unfold nmO
        rw [if_neg n4_0, if_neg n4_1, if_neg h89, if_pos h99]
    · refine wp_iconst (v := 0) dX8_nameOf_92 (by decide) rfl ?_
      refine wp_goto (t := 107) dX8_nameOf_93 rfl ?_
      refine wp_iret dX8_nameOf_107 rfl rfl ?_
      refine ⟨_, _, rfl, rfl, ?_, rfl⟩
      unfold nmO
      rw [if_neg n4_0, if_neg n4_1, if_pos h89]
def rnk (x : Int32) : Int32 := if x = -1 then 1 else if x = -2 then 2 else if ¬ x < -5 then 3 else if ¬ x < -7 then 4 else if ¬ x < -9 then 5 else 6
theorem c8_rank {s : Sn} {x : Int32} : Ca d MX8_rank [vI x] (hN s) (Pd (rnk x) s) := by
  change Wp _ _ 0 [some _] [] _ _
  refine wp_iload_n dX8_rank_0 rfl rfl ?_
  refine wp_iconst (v := (-1)) dX8_rank_1 (by decide) rfl ?_
  refine wp_icmp_ne (t := 9) dX8_rank_2 rfl rfl (fun h2 => ?_) (fun h2 => ?_)
  · refine wp_iload_n dX8_rank_9 rfl rfl ?_
    refine wp_bipush (v := (-2)) dX8_rank_10 (by decide) rfl ?_
    refine wp_icmp_ne (t := 19) dX8_rank_12 rfl rfl (fun h12 => ?_) (fun h12 => ?_)
    · refine wp_iload_n dX8_rank_19 rfl rfl ?_
      refine wp_bipush (v := (-5)) dX8_rank_20 (by decide) rfl ?_
      refine wp_icmp_lt (t := 29) dX8_rank_22 rfl rfl (fun h22 => ?_) (fun h22 => ?_)
      · refine wp_iload_n dX8_rank_29 rfl rfl ?_
        refine wp_bipush (v := (-7)) dX8_rank_30 (by decide) rfl ?_
        refine wp_icmp_lt (t := 39) dX8_rank_32 rfl rfl (fun h32 => ?_) (fun h32 => ?_)
        · refine wp_iload_n dX8_rank_39 rfl rfl ?_
          refine wp_bipush (v := (-9)) dX8_rank_40 (by decide) rfl ?_
          refine wp_icmp_lt (t := 49) dX8_rank_42 rfl rfl (fun h42 => ?_) (fun h42 => ?_)
          · refine wp_bipush (v := 6) dX8_rank_49 (by decide) rfl ?_
            refine wp_iret dX8_rank_51 rfl rfl ?_
            refine ⟨_, _, rfl, rfl, ?_, rfl⟩
            unfold rnk
            rw [if_neg h2, if_neg h12, if_neg (fun z => z h22), if_neg (fun z => z h32), if_neg (fun z => z h42)]
          · refine wp_iconst (v := 5) dX8_rank_45 (by decide) rfl ?_
            refine wp_goto (t := 51) dX8_rank_46 rfl ?_
            refine wp_iret dX8_rank_51 rfl rfl ?_
            refine ⟨_, _, rfl, rfl, ?_, rfl⟩
            unfold rnk
            rw [if_neg h2, if_neg h12, if_neg (fun z => z h22), if_neg (fun z => z h32), if_pos h42]
        · refine wp_iconst (v := 4) dX8_rank_35 (by decide) rfl ?_
          refine wp_goto (t := 51) dX8_rank_36 rfl ?_
          refine wp_iret dX8_rank_51 rfl rfl ?_
          refine ⟨_, _, rfl, rfl, ?_, rfl⟩
          unfold rnk
          rw [if_neg h2, if_neg h12, if_neg (fun z => z h22), if_pos h32]
      · refine wp_iconst (v := 3) dX8_rank_25 (by decide) rfl ?_
        refine wp_goto (t := 51) dX8_rank_26 rfl ?_
        refine wp_iret dX8_rank_51 rfl rfl ?_
        refine ⟨_, _, rfl, rfl, ?_, rfl⟩
        unfold rnk
        rw [if_neg h2, if_neg h12, if_pos h22]
    · refine wp_iconst (v := 2) dX8_rank_15 (by decide) rfl ?_
      refine wp_goto (t := 51) dX8_rank_16 rfl ?_
      refine wp_iret dX8_rank_51 rfl rfl ?_
      refine ⟨_, _, rfl, rfl, ?_, rfl⟩
      unfold rnk
      rw [if_neg h2, if_pos h12]
  · refine wp_iconst (v := 1) dX8_rank_5 (by decide) rfl ?_
    refine wp_goto (t := 51) dX8_rank_6 rfl ?_
    refine wp_iret dX8_rank_51 rfl rfl ?_
    refine ⟨_, _, rfl, rfl, ?_, rfl⟩
    unfold rnk
    rw [if_pos h2]
def sgn (t x : Int32) : Int32 := if t = 3 then (if x = 38 then -2 else if x = 42 then -8 else if x = 43 then -6 else if x = 45 then -7 else if x = 47 then -9 else if x = 60 then -3 else if x = 61 then -4 else if x = 62 then -5 else if x = 124 then -1 else 0) else 0
theorem c8_signHere {s : Sn} : Ca d MX8_signHere [vR 40 0 0] (hN s) (Pd (sgn (s.1 (40, 0, 0) 9) (s.1 (40, 0, 0) 10)) s) := by
  change Wp _ _ 0 [some _] [] _ _
  refine wp_aload_n dX8_signHere_0 rfl rfl ?_
  refine wn_getI dX8_signHere_1 fRX8_189 o40 rfl rfl ?_
  refine wp_iconst (v := 3) dX8_signHere_4 (by decide) rfl ?_
  refine wp_icmp_eq (t := 10) dX8_signHere_5 rfl rfl (fun h5 => ?_) (fun h5 => ?_)
  · refine wp_aload_n dX8_signHere_10 rfl rfl ?_
    refine wn_getI dX8_signHere_11 fRX8_195 o40 rfl rfl ?_
    refine wp_lsw9 (c0 := 38) (c1 := 42) (c2 := 43) (c3 := 45) (c4 := 47) (c5 := 60) (c6 := 61) (c7 := 62) (c8 := 124) (t0 := 98) (t1 := 116) (t2 := 110) (t3 := 113) (t4 := 119) (t5 := 101) (t6 := 104) (t7 := 107) (t8 := 96) (t := 122) dX8_signHere_14 rfl (by decide) (by decide) (by decide) (by decide) (by decide) (by decide) (by decide) (by decide) (by decide) (by decide) (by decide) (by decide) (by decide) (by decide) (by decide) (by decide) (by decide) (by decide) (by decide) rfl rfl rfl rfl rfl rfl rfl rfl rfl rfl (fun k14 => ?_) (fun k14 => ?_) (fun k14 => ?_) (fun k14 => ?_) (fun k14 => ?_) (fun k14 => ?_) (fun k14 => ?_) (fun k14 => ?_) (fun k14 => ?_) (fun n14_0 n14_1 n14_2 n14_3 n14_4 n14_5 n14_6 n14_7 n14_8 => ?_)
    · refine wp_bipush (v := (-2)) dX8_signHere_98 (by decide) rfl ?_
      refine wp_iret dX8_signHere_100 rfl rfl ?_
      refine ⟨_, _, rfl, rfl, ?_, rfl⟩
      unfold sgn
      rw [if_pos h5, k14]
      rfl
    · refine wp_bipush (v := (-8)) dX8_signHere_116 (by decide) rfl ?_
      refine wp_iret dX8_signHere_118 rfl rfl ?_
      refine ⟨_, _, rfl, rfl, ?_, rfl⟩
      unfold sgn
      rw [if_pos h5, k14]
      rfl
    · refine wp_bipush (v := (-6)) dX8_signHere_110 (by decide) rfl ?_
      refine wp_iret dX8_signHere_112 rfl rfl ?_
      refine ⟨_, _, rfl, rfl, ?_, rfl⟩
      unfold sgn
      rw [if_pos h5, k14]
      rfl
    · refine wp_bipush (v := (-7)) dX8_signHere_113 (by decide) rfl ?_
      refine wp_iret dX8_signHere_115 rfl rfl ?_
      refine ⟨_, _, rfl, rfl, ?_, rfl⟩
      unfold sgn
      rw [if_pos h5, k14]
      rfl
    · refine wp_bipush (v := (-9)) dX8_signHere_119 (by decide) rfl ?_
      refine wp_iret dX8_signHere_121 rfl rfl ?_
      refine ⟨_, _, rfl, rfl, ?_, rfl⟩
      unfold sgn
      rw [if_pos h5, k14]
      rfl
    · refine wp_bipush (v := (-3)) dX8_signHere_101 (by decide) rfl ?_
      refine wp_iret dX8_signHere_103 rfl rfl ?_
      refine ⟨_, _, rfl, rfl, ?_, rfl⟩
      unfold sgn
      rw [if_pos h5, k14]
      rfl
    · refine wp_bipush (v := (-4)) dX8_signHere_104 (by decide) rfl ?_
      refine wp_iret dX8_signHere_106 rfl rfl ?_
      refine ⟨_, _, rfl, rfl, ?_, rfl⟩
      unfold sgn
      rw [if_pos h5, k14]
      rfl
    · refine wp_bipush (v := (-5)) dX8_signHere_107 (by decide) rfl ?_
      refine wp_iret dX8_signHere_109 rfl rfl ?_
      refine ⟨_, _, rfl, rfl, ?_, rfl⟩
      unfold sgn
      rw [if_pos h5, k14]
      rfl
    · refine wp_iconst (v := (-1)) dX8_signHere_96 (by decide) rfl ?_
      refine wp_iret dX8_signHere_97 rfl rfl ?_
      refine ⟨_, _, rfl, rfl, ?_, rfl⟩
      unfold sgn
      rw [if_pos h5, k14]
      rfl
    · refine wp_iconst (v := 0) dX8_signHere_122 (by decide) rfl ?_
      refine wp_iret dX8_signHere_123 rfl rfl ?_
      refine ⟨_, _, rfl, rfl, ?_, rfl⟩
      unfold sgn
      rw [if_pos h5, if_neg n14_0, if_neg n14_1, if_neg n14_2, if_neg n14_3, if_neg n14_4, if_neg n14_5, if_neg n14_6, if_neg n14_7, if_neg n14_8]
  · refine wp_iconst (v := 0) dX8_signHere_8 (by decide) rfl ?_
    refine wp_iret dX8_signHere_9 rfl rfl ?_
    refine ⟨_, _, rfl, rfl, ?_, rfl⟩
    unfold sgn
    rw [if_neg h5]
end
