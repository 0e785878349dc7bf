/-! THE PURE PART, 46: opened, wider -/
section
variable {d i : Nat}
theorem Wr.up {f : Fl} {c c8 k : Nat} {v : Int32} (h : Wr f c c8) (h1 : k ≠ 1) (h3 : k ≠ 3) (h4 : k ≠ 4) (h8 : k ≠ 8) (h45 : k < 45) : Wr (upd f k v) c c8 := h.keep (h.1.up h1 h8 h45) (fun g hg => upd_ne (by omega)) (upd_ne (Ne.symm h3)) (upd_ne (Ne.symm h4))
theorem Wr.upr {f : Fl} {c c8 g r : Nat} (h : Wr f c c8) (hg : g < 12) (hr : r ≤ 13) : Wr (upd f (45 + 5 * g + 3) (nI r)) c c8 := h.keep (h.1.upr hg hr) (fun q hq => upd_ne (by omega)) (upd_ne (by omega)) (upd_ne (by omega))
theorem RVL.up {s : Sn} {f : Fl} {c c8 k q : Nat} {r : Rf} {v : Int32} (h : RVL s i f c c8) (hV : RV (sI s r q v) i (upd f k v) c) (hk : k < 105) (hr : r.1 ≠ 34 ∧ r.1 ≠ 35) : RVL (sI s r q v) i (upd f k v) c c8 :=
  ⟨hV, h.2.1.cg (fun z hz => sI_nr (fun e => by rw [e] at hz; rcases hz with hz | hz; exact hr.1 hz; exact hr.2 hz)) rfl (fun j hj => upd_ne (by omega)), h.2.2⟩
theorem FH.pt {a b : Sn} {r : Rf} {k : Nat} {v : Int32} (h : FH a b) (hr : XQ r) : FH a (sI b r k v) := FW.pt h hr
def opK (f : Fl) (k : Nat) : Fl := fun q => if 33 ≤ q ∧ q < 33 + k then 0 else f q
theorem opK_0 {f : Fl} : opK f 0 = f := by
  funext q
  exact if_neg (by omega)
theorem opK_s {f : Fl} {k : Nat} : upd (opK f k) (33 + k) 0 = opK f (k + 1) := by
  funext q
  by_cases e : q = 33 + k
  · rw [e, upd_eq]; exact (if_pos (by omega)).symm
  · rw [upd_ne e]
    show (if 33 ≤ q ∧ q < 33 + k then 0 else f q) = if 33 ≤ q ∧ q < 33 + (k + 1) then 0 else f q
    by_cases e2 : 33 ≤ q ∧ q < 33 + k
    · rw [if_pos e2, if_pos (by omega)]
    · rw [if_neg e2, if_neg (by omega)]
theorem opK_W {f : Fl} {c c8 : Nat} (h : Wr f c c8) : ∀ k, k ≤ 12 → Wr (opK f k) c c8
  | 0, _ => by rw [opK_0]; exact h
  | k + 1, hk => by rw [← opK_s]; exact (opK_W h k (by omega)).up (by omega) (by omega) (by omega) (by omega) (by omega)
theorem opK_Q {f : Fl} {c c8 : Nat} (h : Wq f c c8) : ∀ k, k ≤ 12 → Wq (opK f k) c c8
  | 0, _ => by rw [opK_0]; exact h
  | k + 1, hk => by rw [← opK_s]; exact (opK_Q h k (by omega)).up (by omega) (by omega) (by omega)
theorem opK_hi {f : Fl} {k q : Nat} (hk : k ≤ 12) (hq : 105 ≤ q) : opK f k q = f q := if_neg (by omega)
def opA (f : Fl) (x : Int32) : Int32 := if 1 ≤ x ∧ x ≤ 60 then nI (mny (weks x.toNatClampNeg (opK f 12)) 12) - nI (mny (weks x.toNatClampNeg f) 12) else -1000000001
theorem opA_y {f : Fl} {n : Nat} (h : 1 ≤ nI n ∧ nI n ≤ 60) (hn : n ≤ 60) : opA f (nI n) = nI (mny (weks n (opK f 12)) 12) - nI (mny (weks n f) 12) := by
  unfold opA
  rw [if_pos h, nI_clamp (by omega)]
theorem ix_33 {k : Nat} : (33 : Int32) + nI k = nI (33 + k) := by
  rw [show (33 : Int32) = nI 33 from rfl, nI_add]
theorem l8_op {s : Sn} {c c8 n : Nat} (hW : Wq (s.1 (41, 0, 0)) c c8) (hn : n ≤ 60) (hn1 : 1 ≤ nI n ∧ nI n ≤ 60) : ∀ k, k ≤ 12 → ∀ s1 : Sn, s1.1 (41, 0, 0) = opK (s.1 (41, 0, 0)) k → BE s1 (s.1 (41, 0, 0)) → Fr XB s s1 → Wp (d + 7) MX8_opened 25 [some (vR 40 0 0), some (vI (nI n)), some (vI (nI (mny (weks n (s.1 (41, 0, 0))) 12))), some (vI (nI k))] [] (hN s1) (Pv fun z t => z = opA (s.1 (41, 0, 0)) (nI n) ∧ t.1 (41, 0, 0) = (s.1 (41, 0, 0)) ∧ Fr XB s t) := by
  refine ind_up (fun k hk ih => ?_)
  intro s1 e1 hB hF
  refine wp_iload_n dX8_opened_25 rfl rfl ?_
  refine wp_bipush (v := 12) dX8_opened_26 (by decide) rfl ?_
  refine wp_icmp_ge (t := 47) dX8_opened_28 rfl rfl (fun h28 => ?_) (fun h28 => ?_)
  · have hk12 : k = 12 := by have := (nI_leI (a := 12) (by omega) (by omega)).mp h28; omega
    subst hk12
    refine wp_aload_n dX8_opened_47 rfl rfl ?_
    refine wp_iload_n dX8_opened_48 rfl rfl ?_
    refine wn_callV1i dX8_opened_49 rRX8_162 (rcv_of o40 rfl) (Nat.le_of_ble_eq_true rfl) rfl (Nat.le_of_ble_eq_true rfl) rfl (c8_comeBehind (c := c) (c8 := c8) hB (by rw [e1]; exact opK_Q hW 12 (by omega)) (fun q hq => by rw [e1, opK_hi (by omega) hq]) (by omega)) (fun x49 s49 hq49 => ?_)
    obtain ⟨e49, r49, hF49⟩ := hq49
    refine wp_iload_n dX8_opened_52 rfl rfl ?_
    refine wp_isub dX8_opened_53 rfl ?_
    refine wp_iret dX8_opened_54 rfl rfl ?_
    refine ⟨_, _, rfl, rfl, ?_, r49, hF.tr (hF49.wd XW_B)⟩
    rw [opA_y hn1 hn, e49, e1]
  · have hl : k < 12 := by have := mt (nI_leI (a := 12) (by omega) (by omega)).mpr h28; omega
    refine wp_aload_n dX8_opened_31 rfl rfl ?_
    refine wn_getR dX8_opened_32 fRX8_9 o40 rfl rfl rfl ?_
    refine wp_bipush (v := 33) dX8_opened_35 (by decide) rfl ?_
    refine wp_iload_n dX8_opened_37 rfl rfl ?_
    refine wp_iadd dX8_opened_38 rfl ?_
    refine wp_iconst (v := 0) dX8_opened_39 (by decide) rfl ?_
    refine wn_iast dX8_opened_40 (o41 0 rfl) rfl (nIx ix_33 (by omega)) (by show _ < 1477; omega) rfl ?_
    refine wp_iinc (l' := [_, _, _, some _]) (v := 1) dX8_opened_41 rfl (by decide) rfl rfl ?_
    refine wp_goto (t := 25) dX8_opened_44 rfl ?_
    rw [nI_1]
    refine ih hl _ ?_ (hB.fr (X := [(41, 0, 0)]) (Fr.rf.pt (by decide)) (by decide)) (hF.pt (by decide))
    rw [sI_row, e1, opK_s]
theorem c8_opened {s : Sn} {c c8 : Nat} {x : Int32} (hW : Wq (s.1 (41, 0, 0)) c c8) : Ca (d + 7) MX8_opened [vR 40 0 0, vI x] (hN s) (Pv fun z t => z = opA (s.1 (41, 0, 0)) x ∧ t.1 (41, 0, 0) = (s.1 (41, 0, 0)) ∧ Fr XB s t) := by
  change Wp _ _ 0 [some _, some _, none, none] [] _ _
  refine wp_iload_n dX8_opened_0 rfl rfl ?_
  refine wp_iconst (v := 1) dX8_opened_1 (by decide) rfl ?_
  refine wp_bipush (v := 60) dX8_opened_2 (by decide) rfl ?_
  refine wn_callS3d dX8_opened_4 rRX8_75 (Nat.le_of_ble_eq_true rfl) rfl rfl rfl (Nat.le_of_ble_eq_true rfl) rfl (c8_in) ?_
  refine wp_if_ne_b (t := 13) dX8_opened_7 rfl rfl (fun h7 => ?_) (fun h7 => ?_)
  · obtain ⟨n, hn1, hn60, rfl⟩ := one_nat (b := 60) (by omega) h7
    refine wp_aload_n dX8_opened_13 rfl rfl ?_
    refine wn_callV0n dX8_opened_14 rRX8_156 (rcv_of o40 rfl) (Nat.le_of_ble_eq_true rfl)  (Nat.le_of_ble_eq_true rfl) rfl (c8_thinks rfl) (fun s14 hq14 => ?_)
    obtain ⟨hB14, hF14⟩ := hq14
    have e14 := hF14.1 (41, 0, 0) (by decide)
    refine wp_aload_n dX8_opened_17 rfl rfl ?_
    refine wp_iload_n dX8_opened_18 rfl rfl ?_
    refine wn_callV1i dX8_opened_19 rRX8_162 (rcv_of o40 rfl) (Nat.le_of_ble_eq_true rfl) rfl (Nat.le_of_ble_eq_true rfl) rfl (c8_comeBehind (c := c) (c8 := c8) hB14 (by rw [e14]; exact hW) (fun q hq => by rw [e14]) (by omega)) (fun x19 s19 hq19 => ?_)
    obtain ⟨e19, r19, hF19⟩ := hq19
    rw [e19, e14]
    refine wp_istore_n (l' := [_, _, some _, _]) dX8_opened_22 rfl rfl ?_
    refine wp_iconst (v := 0) dX8_opened_23 (by decide) rfl ?_
    refine wp_istore_n (l' := [_, _, _, some _]) dX8_opened_24 rfl rfl ?_
    exact l8_op hW hn60 h7 0 (Nat.zero_le _) _ (by rw [r19, opK_0]) (hB14.fr hF19 (by decide)) ((hF14.wd X3_B).tr (hF19.wd XW_B))
  · refine wp_ldc dX8_opened_10 kRX8_83 rfl ?_
    refine wp_iret dX8_opened_12 rfl rfl ?_
    exact ⟨_, _, rfl, rfl, (if_neg h7).symm, rfl, Fr.rf⟩
theorem l7_op {s : Sn} {f : Fl} {c c8 n : Nat} (hW : Wr f c c8) (hn : n ≤ 60) (hn1 : 1 ≤ nI n ∧ nI n ≤ 60) : ∀ k, k ≤ 12 → ∀ s1 : Sn, RVL s1 2 (opK f k) c c8 → FH s s1 → Wp (d + 6) MX7_opened 39 [some (vR 10 0 0), some (vI (nI n)), some (vI (nI (mny (weks n f) 12))), some (vI (nI k))] [] (hN s1) (Pv fun z t => z = opA f (nI n) ∧ FH s t) := by
  refine ind_up (fun k hk ih => ?_)
  intro s1 h1 hF
  refine wp_iload_n dX7_opened_39 rfl rfl ?_
  refine wp_bipush (v := 12) dX7_opened_40 (by decide) rfl ?_
  refine wp_icmp_ge (t := 61) dX7_opened_42 rfl rfl (fun h42 => ?_) (fun h42 => ?_)
  · have hk12 : k = 12 := by have := (nI_leI (a := 12) (by omega) (by omega)).mp h42; omega
    subst hk12
    refine wp_aload_n dX7_opened_61 rfl rfl ?_
    refine wn_getR dX7_opened_62 fRX7_19 o10 rfl rfl rfl ?_
    refine wp_iload_n dX7_opened_65 rfl rfl ?_
    refine wn_callV1n dX7_opened_66 rRX7_167 (rcv_of (o11 (by decide)) rfl) (Nat.le_of_ble_eq_true rfl) rfl (Nat.le_of_ble_eq_true rfl) rfl (c3_weeksQ (by decide) (by decide) (by omega) h1 (opK_W hW 12 (by omega))) (fun s66 hq66 => ?_)
    obtain ⟨h66, hF66⟩ := hq66
    refine wp_aload_n dX7_opened_69 rfl rfl ?_
    refine wn_getR dX7_opened_70 fRX7_19 o10 rfl rfl rfl ?_
    refine wn_getI dX7_opened_73 fRX7_161 (o11 (by decide)) rfl rfl ?_
    refine wp_iload_n dX7_opened_76 rfl rfl ?_
    refine wp_isub dX7_opened_77 rfl ?_
    refine wp_iret dX7_opened_78 rfl rfl ?_
    refine ⟨_, _, rfl, rfl, ?_, hF.tr hF66⟩
    rw [opA_y hn1 hn, h66.1.2.1]
  · have hl : k < 12 := by have := mt (nI_leI (a := 12) (by omega) (by omega)).mpr h42; omega
    refine wp_aload_n dX7_opened_45 rfl rfl ?_
    refine wn_getR dX7_opened_46 fRX7_19 o10 rfl rfl rfl ?_
    refine wn_getR dX7_opened_49 fRX7_134 (o11 (by decide)) rfl rfl rfl ?_
    refine wp_iload_n dX7_opened_52 rfl rfl ?_
    refine wp_iconst (v := 0) dX7_opened_53 (by decide) rfl ?_
    refine wn_iast dX7_opened_54 (o15 (by decide)) rfl (nIx rfl (by omega)) (show k < 12 from hl) rfl ?_
    refine wp_iinc (l' := [_, _, _, some _]) (v := 1) dX7_opened_55 rfl (by decide) rfl rfl ?_
    refine wp_goto (t := 39) dX7_opened_58 rfl ?_
    rw [nI_1]
    have hb := h1.1.bm (v := 0) hl
    rw [show 21 + 12 * 1 + k = 33 + k by omega] at hb
    refine ih hl _ ?_ (hF.pt (Or.inr ⟨by decide, Or.inr (Or.inr (Or.inr (Or.inl rfl)))⟩))
    rw [← opK_s]
    exact h1.up hb (by omega) (by decide)
theorem c7_opened {s : Sn} {f : Fl} {c c8 : Nat} {x : Int32} (h : RVL s 0 f c c8) (hW : Wr f c c8) : Ca (d + 6) MX7_opened [vR 10 0 0, vI x] (hN s) (Pv fun z t => z = opA f x ∧ FH s t) := by
  change Wp _ _ 0 [some _, some _, none, none] [] _ _
  refine wp_iload_n dX7_opened_0 rfl rfl ?_
  refine wp_iconst (v := 1) dX7_opened_1 (by decide) rfl ?_
  refine wp_bipush (v := 60) dX7_opened_2 (by decide) rfl ?_
  refine wn_callS3d dX7_opened_4 rRX7_128 (Nat.le_of_ble_eq_true rfl) rfl rfl rfl (Nat.le_of_ble_eq_true rfl) rfl (c7_within) ?_
  refine wp_if_ne_b (t := 13) dX7_opened_7 rfl rfl (fun h7 => ?_) (fun h7 => ?_)
  · obtain ⟨n, hn1, hn60, rfl⟩ := one_nat (b := 60) (by omega) h7
    refine wp_aload_n dX7_opened_13 rfl rfl ?_
    refine wn_callV0n dX7_opened_14 rRX7_186 (rcv_of o10 rfl) (Nat.le_of_ble_eq_true rfl)  (Nat.le_of_ble_eq_true rfl) rfl (c7_startThought h hW.1.2.2.2.1) (fun s14 hq14 => ?_)
    obtain ⟨h14, hF14⟩ := hq14
    refine wp_aload_n dX7_opened_17 rfl rfl ?_
    refine wn_getR dX7_opened_18 fRX7_19 o10 rfl rfl rfl ?_
    refine wp_iload_n dX7_opened_21 rfl rfl ?_
    refine wn_callV1n dX7_opened_22 rRX7_167 (rcv_of (o11 (by decide)) rfl) (Nat.le_of_ble_eq_true rfl) rfl (Nat.le_of_ble_eq_true rfl) rfl (c3_weeksQ (by decide) (by decide) (by omega) h14 hW) (fun s22 hq22 => ?_)
    obtain ⟨h22, hF22⟩ := hq22
    have hF2 := hF14.tr hF22
    refine wp_aload_n dX7_opened_25 rfl rfl ?_
    refine wn_getR dX7_opened_26 fRX7_19 o10 rfl rfl rfl ?_
    refine wn_getI dX7_opened_29 fRX7_161 (o11 (by decide)) rfl rfl ?_
    rw [h22.1.2.1]
    refine wp_istore_n (l' := [_, _, some _, _]) dX7_opened_32 rfl rfl ?_
    refine wp_aload_n dX7_opened_33 rfl rfl ?_
    refine wn_callV0n dX7_opened_34 rRX7_186 (rcv_of o10 rfl) (Nat.le_of_ble_eq_true rfl)  (Nat.le_of_ble_eq_true rfl) rfl (c7_startThought (h.fh hF2 (by decide)) hW.1.2.2.2.1) (fun s34 hq34 => ?_)
    obtain ⟨h34, hF34⟩ := hq34
    refine wp_iconst (v := 0) dX7_opened_37 (by decide) rfl ?_
    refine wp_istore_n (l' := [_, _, _, some _]) dX7_opened_38 rfl rfl ?_
    exact l7_op hW hn60 h7 0 (Nat.zero_le _) _ (by rw [opK_0]; exact h34) (hF2.tr hF34)
  · refine wp_ldc dX7_opened_10 kRX7_68 rfl ?_
    refine wp_iret dX7_opened_12 rfl rfl ?_
    exact ⟨_, _, rfl, rfl, (if_neg h7).symm, FH.rf⟩
/-- the best of some, and how good it is -/
def bsg (p : Nat → Bool) (v : Nat → Int32) (a : Int32 × Int32) : Nat → Int32 × Int32
  | 0 => a
  | k + 1 => if p k = true ∧ (bsg p v a k).2 < v k then (nI k, v k) else bsg p v a k
theorem bsg_y {p : Nat → Bool} {v : Nat → Int32} {a : Int32 × Int32} {k : Nat} (hp : p k = true) (h : (bsg p v a k).2 < v k) : bsg p v a (k + 1) = (nI k, v k) := if_pos ⟨hp, h⟩
theorem bsg_n {p : Nat → Bool} {v : Nat → Int32} {a : Int32 × Int32} {k : Nat} (h : ¬ (bsg p v a k).2 < v k) : bsg p v a (k + 1) = bsg p v a k := if_neg (fun z => h z.2)
theorem bsg_p {p : Nat → Bool} {v : Nat → Int32} {a : Int32 × Int32} {k : Nat} (h : ¬ p k = true) : bsg p v a (k + 1) = bsg p v a k := if_neg (fun z => h z.1)
abbrev nn5 : Int32 × Int32 := (-1000000005, -1000000005)
abbrev nn1 : Int32 × Int32 := (-1, -1)
theorem bsg_e {p : Nat → Bool} {v : Nat → Int32} (hv : ∀ k, ∃ m, m < 2 ^ 31 ∧ v k = nI m) : ∀ k, k < 2 ^ 31 → ((∀ j, j < k → p j = false) ∧ bsg p v nn5 k = nn5 ∧ bsg p v nn1 k = nn1) ∨ (bsg p v nn5 k = bsg p v nn1 k ∧ ∃ m, m < 2 ^ 31 ∧ (bsg p v nn1 k).1 = nI m)
  | 0, _ => Or.inl ⟨fun j hj => absurd hj (Nat.not_lt_zero j), rfl, rfl⟩
  | k + 1, hk => by
    obtain ⟨m, hm, hvk⟩ := hv k
    rcases bsg_e hv k (by omega) with ⟨h1, h2, h3⟩ | ⟨h1, h2⟩
    · by_cases hp : p k = true
      · refine Or.inr ⟨?_, k, by omega, ?_⟩
        · rw [bsg_y hp (by rw [h2, hvk]; exact Int32.lt_of_lt_of_le (by decide) (nI_pos' hm)), bsg_y hp (by rw [h3, hvk]; exact Int32.lt_of_lt_of_le (by decide) (nI_pos' hm))]
        · rw [bsg_y hp (by rw [h3, hvk]; exact Int32.lt_of_lt_of_le (by decide) (nI_pos' hm))]
      · refine Or.inl ⟨fun j hj => ?_, by rw [bsg_p hp, h2], by rw [bsg_p hp, h3]⟩
        by_cases e : j = k
        · rw [e]; exact Bool.eq_false_iff.mpr hp
        · exact h1 j (by omega)
    · refine Or.inr ?_
      by_cases hp : p k = true ∧ (bsg p v nn1 k).2 < v k
      · rw [bsg_y hp.1 hp.2, bsg_y hp.1 (by rw [h1]; exact hp.2)]
        exact ⟨rfl, k, by omega, rfl⟩
      · rw [show bsg p v nn1 (k + 1) = bsg p v nn1 k from if_neg hp, show bsg p v nn5 (k + 1) = bsg p v nn5 k from if_neg (by rw [h1]; exact hp)]
        exact ⟨h1, h2⟩
theorem mny_31 {f : Fl} {c c8 : Nat} (h : Wq f c c8) : ∃ m, m < 2 ^ 31 ∧ nI (mny f 12) = nI m := ⟨_, by have := mny_le (f := f) (v := 12); have := h.cn; have := h.2.1; unfold cn at *; omega, rfl⟩
abbrev wdn (f : Fl) (r : Nat) : Fl := upd f (21 + r) (f (21 + r) + 2)
def wdV (f : Fl) (n : Nat) : Nat → Int32 := fun r => if r < 12 then nI (mny (weks n (wdn f r)) 12) else 0
def wiB (f : Fl) (n : Nat) : Int32 × Int32 := bsg (fun _ => true) (wdV f n) nn5 12
abbrev wiO (x y : Int32) : Prop := (1 ≤ x ∧ x ≤ 40) ∧ (0 ≤ y ∧ y ≤ 1)
def wiA (f : Fl) (x y : Int32) : Int32 := if wiO x y then (if y = 0 then (wiB f x.toNatClampNeg).1 else (wiB f x.toNatClampNeg).2) else -1000000001
theorem wiA_y {f : Fl} {n : Nat} {y : Int32} (h : wiO (nI n) y) (hn : n ≤ 40) : wiA f (nI n) y = if y = 0 then (wiB f n).1 else (wiB f n).2 := by
  unfold wiA
  rw [if_pos h, nI_clamp (by omega)]
theorem wdn_Q {f : Fl} {c c8 r : Nat} (h : Wq f c c8) (hr : r < 12) : Wq (wdn f r) c c8 := h.up (by omega) (by omega) (by omega)
theorem wdn_W {f : Fl} {c c8 r : Nat} (h : Wr f c c8) (hr : r < 12) : Wr (wdn f r) c c8 := h.up (by omega) (by omega) (by omega) (by omega) (by omega)
theorem wdV_y {f : Fl} {n r : Nat} (hr : r < 12) : wdV f n r = nI (mny (weks n (wdn f r)) 12) := if_pos hr
theorem wi_B {f : Fl} {n c c8 : Nat} (h : Wq f c c8) : bsg (fun _ => true) (wdV f n) nn1 12 = wiB f n := by
  have hv : ∀ k, ∃ m, m < 2 ^ 31 ∧ wdV f n k = nI m := fun k => by
    by_cases e : k < 12
    · rw [wdV_y e]; exact mny_31 (Wq.weks n _ (wdn_Q h e))
    · exact ⟨0, by decide, if_neg e⟩
  rcases bsg_e (p := fun _ => true) hv 12 (by decide) with ⟨h1, _⟩ | ⟨h1, _⟩
  · exact absurd (h1 0 (by decide)) (by decide)
  · exact h1.symm
theorem l8_wi {s : Sn} {c c8 n : Nat} {y : Int32} (hW : Wq (s.1 (41, 0, 0)) c c8) (hn : n ≤ 40) (hO : wiO (nI n) y) : ∀ k, k ≤ 12 → ∀ s1 : Sn, s1.1 (41, 0, 0) = (s.1 (41, 0, 0)) → BE s1 (s.1 (41, 0, 0)) → Fr XB s s1 → ∀ c6, Wp (d + 7) MX8_wider 34 [some (vR 40 0 0), some (vI (nI n)), some (vI y), some (vI (bsg (fun _ => true) (wdV (s.1 (41, 0, 0)) n) nn1 k).1), some (vI (bsg (fun _ => true) (wdV (s.1 (41, 0, 0)) n) nn1 k).2), some (vI (nI k)), c6] [] (hN s1) (Pv fun z t => z = wiA (s.1 (41, 0, 0)) (nI n) y ∧ t.1 (41, 0, 0) = (s.1 (41, 0, 0)) ∧ Fr XB s t) := by
  refine ind_up (fun k hk ih => ?_)
  intro s1 e1 hB hF c6
  refine wp_iload dX8_wider_34 rfl rfl ?_
  refine wp_bipush (v := 12) dX8_wider_36 (by decide) rfl ?_
  refine wp_icmp_ge (t := 98) dX8_wider_38 rfl rfl (fun h38 => ?_) (fun h38 => ?_)
  · have hk12 : k = 12 := by have := (nI_leI (a := 12) (by omega) (by omega)).mp h38; omega
    subst hk12
    rw [wi_B hW]
    refine wp_iload_n dX8_wider_98 rfl rfl ?_
    refine wp_if_ne (t := 106) dX8_wider_99 rfl rfl (fun h99 => ?_) (fun h99 => ?_)
    · refine wp_iload dX8_wider_106 rfl rfl ?_
      refine wp_iret dX8_wider_108 rfl rfl ?_
      refine ⟨_, _, rfl, rfl, ?_, e1, hF⟩
      rw [wiA_y hO hn, if_neg h99]
    · refine wp_iload_n dX8_wider_102 rfl rfl ?_
      refine wp_goto (t := 108) dX8_wider_103 rfl ?_
      refine wp_iret dX8_wider_108 rfl rfl ?_
      refine ⟨_, _, rfl, rfl, ?_, e1, hF⟩
      rw [wiA_y hO hn, if_pos h99]
  · have hl : k < 12 := by have := mt (nI_leI (a := 12) (by omega) (by omega)).mpr h38; omega
    refine wp_aload_n dX8_wider_41 rfl rfl ?_
    refine wn_getR dX8_wider_42 fRX8_9 o40 rfl rfl rfl ?_
    refine wp_bipush (v := 21) dX8_wider_45 (by decide) rfl ?_
    refine wp_iload dX8_wider_47 rfl rfl ?_
    refine wp_iadd dX8_wider_49 rfl ?_
    refine wp_dup2 dX8_wider_50 rfl rfl rfl ?_
    refine wn_iald dX8_wider_51 (o41 0 rfl) rfl (nIx ix_21 (by omega)) (by show _ < 1477; omega) rfl ?_
    rw [e1]
    refine wp_iconst (v := 2) dX8_wider_52 (by decide) rfl ?_
    refine wp_iadd dX8_wider_53 rfl ?_
    refine wn_iast dX8_wider_54 (o41 0 rfl) rfl (nIx ix_21 (by omega)) (by show _ < 1477; omega) rfl ?_
    have hF51 : Fr XW s1 (sI s1 (41, 0, 0) (21 + k) ((s.1 (41, 0, 0)) (21 + k) + 2)) := Fr.rf.pt (by decide)
    have e51 : (sI s1 (41, 0, 0) (21 + k) ((s.1 (41, 0, 0)) (21 + k) + 2)).1 (41, 0, 0) = wdn (s.1 (41, 0, 0)) k := by rw [sI_row, e1]
    refine wp_aload_n dX8_wider_55 rfl rfl ?_
    refine wp_iload_n dX8_wider_56 rfl rfl ?_
    refine wn_callV1i dX8_wider_57 rRX8_162 (rcv_of o40 rfl) (Nat.le_of_ble_eq_true rfl) rfl (Nat.le_of_ble_eq_true rfl) rfl (c8_comeBehind (c := c) (c8 := c8) (hB.fr hF51 (by decide)) (by rw [e51]; exact wdn_Q hW hl) (fun q hq => by rw [e51]; exact upd_ne (by omega)) (by omega)) (fun x57 s57 hq57 => ?_)
    obtain ⟨e57, r57, hF57⟩ := hq57
    rw [e51, ← wdV_y hl] at e57
    subst e57
    refine wp_istore (l' := [_, _, _, _, _, _, some _]) dX8_wider_60 rfl rfl ?_
    refine wp_iload dX8_wider_62 rfl rfl ?_
    refine wp_iload dX8_wider_64 rfl rfl ?_
    refine wp_icmp_le (t := 74) dX8_wider_66 rfl rfl (fun h66 => ?_) (fun h66 => ?_)
    · refine wp_iload_n dX8_wider_74 rfl rfl ?_
      refine wp_istore_n (l' := [_, _, _, some _, _, _, _]) dX8_wider_75 rfl rfl ?_
      refine wp_iload dX8_wider_76 rfl rfl ?_
      refine wp_iload dX8_wider_78 rfl rfl ?_
      refine wp_icmp_le (t := 88) dX8_wider_80 rfl rfl (fun h80 => ?_) (fun h80 => absurd h66 h80)
      refine wp_iload dX8_wider_88 rfl rfl ?_
      refine wp_istore (l' := [_, _, _, _, some _, _, _]) dX8_wider_90 rfl rfl ?_
      refine wp_iinc (l' := [_, _, _, _, _, some _, _]) (v := 1) dX8_wider_92 rfl (by decide) rfl rfl ?_
      refine wp_goto (t := 34) dX8_wider_95 rfl ?_
      rw [nI_1]
      have h := ih hl _ r57 (hB.fr (hF51.tr hF57) (by decide)) (hF.tr ((hF51.tr hF57).wd XW_B)) (some (vI (wdV (s.1 (41, 0, 0)) n k)))
      rw [bsg_n (Int32.not_lt.mpr h66)] at h
      exact h
    · refine wp_iload dX8_wider_69 rfl rfl ?_
      refine wp_goto (t := 75) dX8_wider_71 rfl ?_
      refine wp_istore_n (l' := [_, _, _, some _, _, _, _]) dX8_wider_75 rfl rfl ?_
      refine wp_iload dX8_wider_76 rfl rfl ?_
      refine wp_iload dX8_wider_78 rfl rfl ?_
      refine wp_icmp_le (t := 88) dX8_wider_80 rfl rfl (fun h80 => absurd h80 h66) (fun h80 => ?_)
      refine wp_iload dX8_wider_83 rfl rfl ?_
      refine wp_goto (t := 90) dX8_wider_85 rfl ?_
      refine wp_istore (l' := [_, _, _, _, some _, _, _]) dX8_wider_90 rfl rfl ?_
      refine wp_iinc (l' := [_, _, _, _, _, some _, _]) (v := 1) dX8_wider_92 rfl (by decide) rfl rfl ?_
      refine wp_goto (t := 34) dX8_wider_95 rfl ?_
      rw [nI_1]
      have h := ih hl _ r57 (hB.fr (hF51.tr hF57) (by decide)) (hF.tr ((hF51.tr hF57).wd XW_B)) (some (vI (wdV (s.1 (41, 0, 0)) n k)))
      rw [bsg_y rfl (Int32.not_le.mp h66)] at h
      exact h
theorem c8_wider {s : Sn} {c c8 : Nat} {x y : Int32} (hW : Wq (s.1 (41, 0, 0)) c c8) : Ca (d + 7) MX8_wider [vR 40 0 0, vI x, vI y] (hN s) (Pv fun z t => z = wiA (s.1 (41, 0, 0)) x y ∧ t.1 (41, 0, 0) = (s.1 (41, 0, 0)) ∧ Fr XB s t) := by
  change Wp _ _ 0 [some _, some _, some _, none, none, none, none] [] _ _
  refine wp_iload_n dX8_wider_0 rfl rfl ?_
  refine wp_iconst (v := 1) dX8_wider_1 (by decide) rfl ?_
  refine wp_bipush (v := 40) dX8_wider_2 (by decide) rfl ?_
  refine wn_callS3d dX8_wider_4 rRX8_75 (Nat.le_of_ble_eq_true rfl) rfl rfl rfl (Nat.le_of_ble_eq_true rfl) rfl (c8_in) ?_
  refine wp_if_eq_b (t := 19) dX8_wider_7 rfl rfl (fun h7 => ?_) (fun h7 => ?_)
  · refine wp_ldc dX8_wider_19 kRX8_83 rfl ?_
    refine wp_iret dX8_wider_21 rfl rfl ?_
    exact ⟨_, _, rfl, rfl, (if_neg (fun z => h7 z.1)).symm, rfl, Fr.rf⟩
  · refine wp_iload_n dX8_wider_10 rfl rfl ?_
    refine wp_iconst (v := 0) dX8_wider_11 (by decide) rfl ?_
    refine wp_iconst (v := 1) dX8_wider_12 (by decide) rfl ?_
    refine wn_callS3d dX8_wider_13 rRX8_75 (Nat.le_of_ble_eq_true rfl) rfl rfl rfl (Nat.le_of_ble_eq_true rfl) rfl (c8_in) ?_
    refine wp_if_ne_b (t := 22) dX8_wider_16 rfl rfl (fun h16 => ?_) (fun h16 => ?_)
    · obtain ⟨n, hn1, hn40, rfl⟩ := one_nat (b := 40) (by omega) h7
      refine wp_aload_n dX8_wider_22 rfl rfl ?_
      refine wn_callV0n dX8_wider_23 rRX8_156 (rcv_of o40 rfl) (Nat.le_of_ble_eq_true rfl)  (Nat.le_of_ble_eq_true rfl) rfl (c8_thinks rfl) (fun s23 hq23 => ?_)
      obtain ⟨hB14, hF14⟩ := hq23
      have e14 := hF14.1 (41, 0, 0) (by decide)
      refine wp_iconst (v := (-1)) dX8_wider_26 (by decide) rfl ?_
      refine wp_istore_n (l' := [_, _, _, some _, _, _, _]) dX8_wider_27 rfl rfl ?_
      refine wp_iconst (v := (-1)) dX8_wider_28 (by decide) rfl ?_
      refine wp_istore (l' := [_, _, _, _, some _, _, _]) dX8_wider_29 rfl rfl ?_
      refine wp_iconst (v := 0) dX8_wider_31 (by decide) rfl ?_
      refine wp_istore (l' := [_, _, _, _, _, some _, _]) dX8_wider_32 rfl rfl ?_
      exact l8_wi hW hn40 ⟨h7, h16⟩ 0 (Nat.zero_le _) _ e14 hB14 (hF14.wd X3_B) _
    · refine wp_ldc dX8_wider_19 kRX8_83 rfl ?_
      refine wp_iret dX8_wider_21 rfl rfl ?_
      exact ⟨_, _, rfl, rfl, (if_neg (fun z => h16 z.2)).symm, rfl, Fr.rf⟩
theorem l7_wi {s : Sn} {f : Fl} {c c8 n : Nat} {y : Int32} (h : RVL s 0 f c c8) (hW : Wr f c c8) (hn : n ≤ 40) (hO : wiO (nI n) y) : ∀ k, k ≤ 12 → ∀ s1 : Sn, FH s s1 → Wp (d + 6) MX7_wider 32 [some (vR 10 0 0), some (vI (nI n)), some (vI y), some (vI (bsg (fun _ => true) (wdV f n) nn5 k).1), some (vI (bsg (fun _ => true) (wdV f n) nn5 k).2), some (vI (nI k))] [] (hN s1) (Pv fun z t => z = wiA f (nI n) y ∧ FH s t) := by
  refine ind_up (fun k hk ih => ?_)
  intro s1 hF
  refine wp_iload dX7_wider_32 rfl rfl ?_
  refine wp_bipush (v := 12) dX7_wider_34 (by decide) rfl ?_
  refine wp_icmp_ge (t := 95) dX7_wider_36 rfl rfl (fun h36 => ?_) (fun h36 => ?_)
  · have hk12 : k = 12 := by have := (nI_leI (a := 12) (by omega) (by omega)).mp h36; omega
    subst hk12
    refine wp_iload_n dX7_wider_95 rfl rfl ?_
    refine wp_if_ne (t := 103) dX7_wider_96 rfl rfl (fun h96 => ?_) (fun h96 => ?_)
    · refine wp_iload dX7_wider_103 rfl rfl ?_
      refine wp_iret dX7_wider_105 rfl rfl ?_
      refine ⟨_, _, rfl, rfl, ?_, hF⟩
      rw [wiA_y hO hn, if_neg h96]
      rfl
    · refine wp_iload_n dX7_wider_99 rfl rfl ?_
      refine wp_goto (t := 105) dX7_wider_100 rfl ?_
      refine wp_iret dX7_wider_105 rfl rfl ?_
      refine ⟨_, _, rfl, rfl, ?_, hF⟩
      rw [wiA_y hO hn, if_pos h96]
      rfl
  · have hl : k < 12 := by have := mt (nI_leI (a := 12) (by omega) (by omega)).mpr h36; omega
    refine wp_aload_n dX7_wider_39 rfl rfl ?_
    refine wn_callV0n dX7_wider_40 rRX7_186 (rcv_of o10 rfl) (Nat.le_of_ble_eq_true rfl)  (Nat.le_of_ble_eq_true rfl) rfl (c7_startThought (h.fh hF (by decide)) hW.1.2.2.2.1) (fun s40 hq40 => ?_)
    obtain ⟨h40, hF40⟩ := hq40
    refine wp_aload_n dX7_wider_43 rfl rfl ?_
    refine wn_getR dX7_wider_44 fRX7_19 o10 rfl rfl rfl ?_
    refine wn_getR dX7_wider_47 fRX7_131 (o11 (by decide)) rfl rfl rfl ?_
    refine wp_iload dX7_wider_50 rfl rfl ?_
    refine wp_dup2 dX7_wider_52 rfl rfl rfl ?_
    refine wn_iald dX7_wider_53 (o14 (by decide)) rfl (nIx rfl (by omega)) (show k < 12 from hl) rfl ?_
    rw [show s40.1 (14, 2, 0) k = f (21 + k) from h40.1.1.rm hl]
    refine wp_iconst (v := 2) dX7_wider_54 (by decide) rfl ?_
    refine wp_iadd dX7_wider_55 rfl ?_
    refine wn_iast dX7_wider_56 (o14 (by decide)) rfl (nIx rfl (by omega)) (show k < 12 from hl) rfl ?_
    have hb := h40.1.rm (v := f (21 + k) + 2) hl
    rw [show 21 + 12 * 0 + k = 21 + k by omega] at hb
    have h56 := h40.up hb (by omega) (by decide)
    refine wp_aload_n dX7_wider_57 rfl rfl ?_
    refine wn_getR dX7_wider_58 fRX7_19 o10 rfl rfl rfl ?_
    refine wp_iload_n dX7_wider_61 rfl rfl ?_
    refine wn_callV1n dX7_wider_62 rRX7_167 (rcv_of (o11 (by decide)) rfl) (Nat.le_of_ble_eq_true rfl) rfl (Nat.le_of_ble_eq_true rfl) rfl (c3_weeksQ (by decide) (by decide) (by omega) h56 (wdn_W hW hl)) (fun s62 hq62 => ?_)
    obtain ⟨h62, hF62⟩ := hq62
    have hF3 := (hF.tr (hF40.pt (Or.inr ⟨by decide, Or.inr (Or.inr (Or.inl rfl))⟩))).tr hF62
    refine wp_aload_n dX7_wider_65 rfl rfl ?_
    refine wn_getR dX7_wider_66 fRX7_19 o10 rfl rfl rfl ?_
    refine wn_getI dX7_wider_69 fRX7_161 (o11 (by decide)) rfl rfl ?_
    rw [h62.1.2.1, ← wdV_y hl]
    refine wp_iload dX7_wider_72 rfl rfl ?_
    refine wp_icmp_le (t := 89) dX7_wider_74 rfl rfl (fun h74 => ?_) (fun h74 => ?_)
    · refine wp_iinc (l' := [_, _, _, _, _, some _]) (v := 1) dX7_wider_89 rfl (by decide) rfl rfl ?_
      refine wp_goto (t := 32) dX7_wider_92 rfl ?_
      rw [nI_1]
      have h := ih hl _ hF3
      rw [bsg_n (Int32.not_lt.mpr h74)] at h
      exact h
    · refine wp_iload dX7_wider_77 rfl rfl ?_
      refine wp_istore_n (l' := [_, _, _, some _, _, _]) dX7_wider_79 rfl rfl ?_
      refine wp_aload_n dX7_wider_80 rfl rfl ?_
      refine wn_getR dX7_wider_81 fRX7_19 o10 rfl rfl rfl ?_
      refine wn_getI dX7_wider_84 fRX7_161 (o11 (by decide)) rfl rfl ?_
      rw [h62.1.2.1, ← wdV_y hl]
      refine wp_istore (l' := [_, _, _, _, some _, _]) dX7_wider_87 rfl rfl ?_
      refine wp_iinc (l' := [_, _, _, _, _, some _]) (v := 1) dX7_wider_89 rfl (by decide) rfl rfl ?_
      refine wp_goto (t := 32) dX7_wider_92 rfl ?_
      rw [nI_1]
      have h := ih hl _ hF3
      rw [bsg_y rfl (Int32.not_le.mp h74)] at h
      exact h
theorem c7_wider {s : Sn} {f : Fl} {c c8 : Nat} {x y : Int32} (h : RVL s 0 f c c8) (hW : Wr f c c8) : Ca (d + 6) MX7_wider [vR 10 0 0, vI x, vI y] (hN s) (Pv fun z t => z = wiA f x y ∧ FH s t) := by
  change Wp _ _ 0 [some _, some _, some _, none, none, none] [] _ _
  refine wp_iload_n dX7_wider_0 rfl rfl ?_
  refine wp_iconst (v := 1) dX7_wider_1 (by decide) rfl ?_
  refine wp_bipush (v := 40) dX7_wider_2 (by decide) rfl ?_
  refine wn_callS3d dX7_wider_4 rRX7_128 (Nat.le_of_ble_eq_true rfl) rfl rfl rfl (Nat.le_of_ble_eq_true rfl) rfl (c7_within) ?_
  refine wp_if_eq_b (t := 19) dX7_wider_7 rfl rfl (fun h7 => ?_) (fun h7 => ?_)
  · refine wp_ldc dX7_wider_19 kRX7_68 rfl ?_
    refine wp_iret dX7_wider_21 rfl rfl ?_
    exact ⟨_, _, rfl, rfl, (if_neg (fun z => h7 z.1)).symm, FH.rf⟩
  · refine wp_iload_n dX7_wider_10 rfl rfl ?_
    refine wp_iconst (v := 0) dX7_wider_11 (by decide) rfl ?_
    refine wp_iconst (v := 1) dX7_wider_12 (by decide) rfl ?_
    refine wn_callS3d dX7_wider_13 rRX7_128 (Nat.le_of_ble_eq_true rfl) rfl rfl rfl (Nat.le_of_ble_eq_true rfl) rfl (c7_within) ?_
    refine wp_if_ne_b (t := 22) dX7_wider_16 rfl rfl (fun h16 => ?_) (fun h16 => ?_)
    · obtain ⟨n, hn1, hn40, rfl⟩ := one_nat (b := 40) (by omega) h7
      refine wp_ldc dX7_wider_22 kRX7_192 rfl ?_
      refine wp_istore_n (l' := [_, _, _, some _, _, _]) dX7_wider_24 rfl rfl ?_
      refine wp_ldc dX7_wider_25 kRX7_192 rfl ?_
      refine wp_istore (l' := [_, _, _, _, some _, _]) dX7_wider_27 rfl rfl ?_
      refine wp_iconst (v := 0) dX7_wider_29 (by decide) rfl ?_
      refine wp_istore (l' := [_, _, _, _, _, some _]) dX7_wider_30 rfl rfl ?_
      exact l7_wi h hW hn40 ⟨h7, h16⟩ 0 (Nat.zero_le _) _ FH.rf
    · refine wp_ldc dX7_wider_19 kRX7_68 rfl ?_
      refine wp_iret dX7_wider_21 rfl rfl ?_
      exact ⟨_, _, rfl, rfl, (if_neg (fun z => h16 z.2)).symm, FH.rf⟩
end
