/-! THE PURE PART, 63: the reference settles, takes a part -/
section
variable {d i j : Nat}
/-- signs that bind so tight are settled: waits, held; code, codes -/
def stl (wf : Fl) (ls : Int32) : Nat → Fl → Nat → Fl × Nat × Nat
  | 0, cf, c => (cf, c, 0)
  | h + 1, cf, c => if ¬ wf h = -11 ∧ ls ≤ rnk (wf h) then stl wf ls h (upd cf c (wf h)) (c + 1) else (cf, c, h + 1)
theorem stl_y {wf cf : Fl} {ls : Int32} {h c : Nat} (e : ¬ wf h = -11 ∧ ls ≤ rnk (wf h)) : stl wf ls (h + 1) cf c = stl wf ls h (upd cf c (wf h)) (c + 1) := if_pos e
theorem stl_n {wf cf : Fl} {ls : Int32} {h c : Nat} (e : ¬ (¬ wf h = -11 ∧ ls ≤ rnk (wf h))) : stl wf ls (h + 1) cf c = (cf, c, h + 1) := if_neg e
theorem stl_c {wf : Fl} {ls : Int32} : ∀ (h : Nat) (cf : Fl) (c : Nat), (stl wf ls h cf c).2.1 + (stl wf ls h cf c).2.2 = c + h ∧ (stl wf ls h cf c).2.2 ≤ h ∧ c ≤ (stl wf ls h cf c).2.1
  | 0, cf, c => ⟨rfl, Nat.le_refl _, Nat.le_refl _⟩
  | h + 1, cf, c => by
    by_cases e : ¬ wf h = -11 ∧ ls ≤ rnk (wf h)
    · rw [stl_y e]
      have := stl_c (wf := wf) (ls := ls) h (upd cf c (wf h)) (c + 1)
      omega
    · rw [stl_n e]
      exact ⟨rfl, Nat.le_refl _, Nat.le_refl _⟩
def nts (wf : Fl) (h : Nat) : Nat := ctr (fun k => decide (wf k = -10)) h
def SE (r : Fl) (c h : Nat) : Fl := upd (upd r 16 (nI c)) 19 (nI h)
theorem SE_16 {r : Fl} {c h : Nat} : SE r c h 16 = nI c := by unfold SE; rw [upd_ne (by decide), upd_eq]
theorem SE_19 {r : Fl} {c h : Nat} : SE r c h 19 = nI h := by unfold SE; rw [upd_eq]
theorem SE_o {r : Fl} {c h q : Nat} (h1 : q ≠ 16) (h2 : q ≠ 19) : SE r c h q = r q := by unfold SE; rw [upd_ne h2, upd_ne h1]
theorem SE_h {r : Fl} {c h k : Nat} : upd (SE r c h) 19 (nI k) = SE r c k := by unfold SE; rw [upd_upd]
theorem SE_c {r : Fl} {c h k : Nat} : upd (SE r c h) 16 (nI k) = SE r k h := by
  unfold SE
  rw [upd_sw (show (16 : Nat) ≠ 19 by decide), upd_upd]
theorem SE_self {r : Fl} {c h : Nat} (h1 : r 16 = nI c) (h2 : r 19 = nI h) : SE r c h = r := by
  unfold SE
  rw [← h1, upd_self2, ← h2, upd_self2]
abbrev XE : List Rf := [(41, 7, 0), (40, 0, 0)]
theorem l8_settle {s : Sn} {wf : Fl} {ls : Int32} {r : Fl} : ∀ (h : Nat) (cf : Fl) (c : Nat) (s1 : Sn), s1.1 (41, 8, 0) = wf → s1.1 (41, 7, 0) = cf → s1.1 (40, 0, 0) = SE r c h → c + h ≤ 96 → Fr XE s s1 → Wp (d + 1) MX8_settle 0 [some (vR 40 0 0), some (vI ls)] [] (hN s1) (Pn fun t => t.1 (41, 7, 0) = (stl wf ls h cf c).1 ∧ t.1 (40, 0, 0) = SE r (stl wf ls h cf c).2.1 (stl wf ls h cf c).2.2 ∧ Fr XE s t) := by
  intro h
  induction h with
  | zero =>
    intro cf c s1 ew ec er hl hF
    refine wp_aload_n dX8_settle_0 rfl rfl ?_
    refine wn_getI dX8_settle_1 fRX8_207 o40 rfl rfl ?_
    rw [er, SE_19]
    refine wp_if_le (t := 82) dX8_settle_4 rfl rfl (fun h4 => ?_) (fun h4 => absurd (by decide) h4)
    refine wp_ret dX8_settle_82 rfl ?_
    exact ⟨_, rfl, rfl, ec, er, hF⟩
  | succ h ih =>
    intro cf c s1 ew ec er hl hF
    have e19 : s1.1 (40, 0, 0) 19 = nI (h + 1) := by rw [er, SE_19]
    refine wp_aload_n dX8_settle_0 rfl rfl ?_
    refine wn_getI dX8_settle_1 fRX8_207 o40 rfl rfl ?_
    rw [e19]
    refine wp_if_le (t := 82) dX8_settle_4 rfl rfl (fun h4 => absurd h4 (Int32.not_le.mpr ((nI_ltI (a := 0) (by omega) (by omega)).mpr (by omega)))) (fun h4 => ?_)
    refine wp_aload_n dX8_settle_7 rfl rfl ?_
    refine wn_getR dX8_settle_8 fRX8_35 o40 rfl rfl rfl ?_
    refine wp_aload_n dX8_settle_11 rfl rfl ?_
    refine wn_getI dX8_settle_12 fRX8_207 o40 rfl rfl ?_
    refine wp_iconst (v := 1) dX8_settle_15 (by decide) rfl ?_
    refine wp_isub dX8_settle_16 rfl ?_
    rw [e19, nI_pred]
    refine wn_iald dX8_settle_17 (o41 8 rfl) rfl (nIx rfl (by omega)) (show h < 96 by omega) rfl ?_
    rw [ew]
    refine wp_bipush (v := (-11)) dX8_settle_18 (by decide) rfl ?_
    refine wp_icmp_eq (t := 82) dX8_settle_20 rfl rfl (fun h20 => ?_) (fun h20 => ?_)
    · refine wp_ret dX8_settle_82 rfl ?_
      refine ⟨_, rfl, rfl, ?_, ?_, hF⟩
      · rw [stl_n (fun z => z.1 h20)]; exact ec
      · rw [stl_n (fun z => z.1 h20)]; exact er
    · refine wp_aload_n dX8_settle_23 rfl rfl ?_
      refine wn_getR dX8_settle_24 fRX8_35 o40 rfl rfl rfl ?_
      refine wp_aload_n dX8_settle_27 rfl rfl ?_
      refine wn_getI dX8_settle_28 fRX8_207 o40 rfl rfl ?_
      refine wp_iconst (v := 1) dX8_settle_31 (by decide) rfl ?_
      refine wp_isub dX8_settle_32 rfl ?_
      rw [e19, nI_pred]
      refine wn_iald dX8_settle_33 (o41 8 rfl) rfl (nIx rfl (by omega)) (show h < 96 by omega) rfl ?_
      rw [ew]
      refine wn_callS1d dX8_settle_34 rRX8_210 (Nat.le_of_ble_eq_true rfl) rfl (Nat.le_of_ble_eq_true rfl) rfl (c8_rank) ?_
      refine wp_iload_n dX8_settle_37 rfl rfl ?_
      refine wp_icmp_lt (t := 82) dX8_settle_38 rfl rfl (fun h38 => ?_) (fun h38 => ?_)
      · refine wp_ret dX8_settle_82 rfl ?_
        refine ⟨_, rfl, rfl, ?_, ?_, hF⟩
        · rw [stl_n (fun z => absurd z.2 (Int32.not_le.mpr h38))]; exact ec
        · rw [stl_n (fun z => absurd z.2 (Int32.not_le.mpr h38))]; exact er
      · refine wp_aload_n dX8_settle_41 rfl rfl ?_
        refine wp_dup dX8_settle_42 rfl rfl ?_
        refine wn_getI dX8_settle_43 fRX8_207 o40 rfl rfl ?_
        rw [e19]
        refine wp_iconst (v := 1) dX8_settle_46 (by decide) rfl ?_
        refine wp_isub dX8_settle_47 rfl ?_
        rw [nI_pred]
        refine wn_putI dX8_settle_48 fRX8_207 o40 rfl rfl rfl ?_
        refine wp_aload_n dX8_settle_51 rfl rfl ?_
        refine wn_getR dX8_settle_52 fRX8_32 o40 rfl rfl rfl ?_
        refine wp_aload_n dX8_settle_55 rfl rfl ?_
        refine wn_getI dX8_settle_56 fRX8_213 o40 rfl rfl ?_
        rw [show (sI s1 (40, 0, 0) 19 (nI h)).1 (40, 0, 0) 16 = nI c by rw [sI_row, er, SE_h, SE_16]]
        refine wp_aload_n dX8_settle_59 rfl rfl ?_
        refine wn_getR dX8_settle_60 fRX8_35 o40 rfl rfl rfl ?_
        refine wp_aload_n dX8_settle_63 rfl rfl ?_
        refine wn_getI dX8_settle_64 fRX8_207 o40 rfl rfl ?_
        rw [show (sI s1 (40, 0, 0) 19 (nI h)).1 (40, 0, 0) 19 = nI h by rw [sI_row, er, SE_h, SE_19]]
        refine wn_iald dX8_settle_67 (o41 8 rfl) rfl (nIx rfl (by omega)) (show h < 96 by omega) rfl ?_
        rw [sI_nr (by decide), ew]
        refine wn_iast dX8_settle_68 (o41 7 rfl) rfl (nIx rfl (by omega)) (show c < 96 by omega) rfl ?_
        refine wp_aload_n dX8_settle_69 rfl rfl ?_
        refine wp_dup dX8_settle_70 rfl rfl ?_
        refine wn_getI dX8_settle_71 fRX8_213 o40 rfl rfl ?_
        rw [sI_nr (by decide), show (sI s1 (40, 0, 0) 19 (nI h)).1 (40, 0, 0) 16 = nI c by rw [sI_row, er, SE_h, SE_16]]
        refine wp_iconst (v := 1) dX8_settle_74 (by decide) rfl ?_
        refine wp_iadd dX8_settle_75 rfl ?_
        rw [nI_1]
        refine wn_putI dX8_settle_76 fRX8_213 o40 rfl rfl rfl ?_
        refine wp_goto (t := 0) dX8_settle_79 rfl ?_
        rw [stl_y ⟨h20, Int32.not_lt.mp h38⟩]
        refine ih _ _ _ ?_ ?_ ?_ (by omega) (((hF.pt (by decide)).pt (by decide)).pt (by decide))
        · rw [sI_nr (by decide), sI_nr (by decide), sI_nr (by decide)]; exact ew
        · rw [sI_nr (by decide), sI_row, sI_nr (by decide), ec]
        · rw [sI_row, sI_nr (by decide), sI_row, er, SE_h, SE_c]
theorem c8_settle {s : Sn} {cf wf : Fl} {ls : Int32} {c h : Nat} (ew : s.1 (41, 8, 0) = wf) (ec : s.1 (41, 7, 0) = cf) (e16 : s.1 (40, 0, 0) 16 = nI c) (e19 : s.1 (40, 0, 0) 19 = nI h) (hl : c + h ≤ 96) : Ca (d + 1) MX8_settle [vR 40 0 0, vI ls] (hN s) (Pn fun t => t.1 (41, 7, 0) = (stl wf ls h cf c).1 ∧ t.1 (40, 0, 0) = SE (s.1 (40, 0, 0)) (stl wf ls h cf c).2.1 (stl wf ls h cf c).2.2 ∧ Fr XE s t) :=
  l8_settle h cf c s ew ec (SE_self e16 e19).symm hl Fr.rf
theorem l8_nots {s : Sn} {wf : Fl} {h : Nat} (ew : s.1 (41, 8, 0) = wf) (e19 : s.1 (40, 0, 0) 19 = nI h) (hh : h ≤ 96) : ∀ k, k ≤ h → Wp d MX8_notsOpen 4 [some (vR 40 0 0), some (vI (nI (nts wf k))), some (vI (nI k))] [] (hN s) (Pd (nI (nts wf h)) s) := by
  refine ind_up (fun k hk ih => ?_)
  refine wp_iload_n dX8_notsOpen_4 rfl rfl ?_
  refine wp_aload_n dX8_notsOpen_5 rfl rfl ?_
  refine wn_getI dX8_notsOpen_6 fRX8_207 o40 rfl rfl ?_
  rw [e19]
  refine wp_icmp_ge (t := 37) dX8_notsOpen_9 rfl rfl (fun h9 => ?_) (fun h9 => ?_)
  · have hk2 : k = h := by have := (nI_leI (by omega) (by omega)).mp h9; omega
    subst hk2
    refine wp_iload_n dX8_notsOpen_37 rfl rfl ?_
    refine wp_iret dX8_notsOpen_38 rfl rfl ?_
    exact Pd.mk
  · have hl : k < h := by have := mt (nI_leI (by omega) (by omega)).mpr h9; omega
    refine wp_iload_n dX8_notsOpen_12 rfl rfl ?_
    refine wp_aload_n dX8_notsOpen_13 rfl rfl ?_
    refine wn_getR dX8_notsOpen_14 fRX8_35 o40 rfl rfl rfl ?_
    refine wp_iload_n dX8_notsOpen_17 rfl rfl ?_
    refine wn_iald dX8_notsOpen_18 (o41 8 rfl) rfl (nIx rfl (by omega)) (show k < 96 by omega) rfl ?_
    rw [ew]
    refine wp_bipush (v := (-10)) dX8_notsOpen_19 (by decide) rfl ?_
    refine wp_icmp_ne (t := 28) dX8_notsOpen_21 rfl rfl (fun h21 => ?_) (fun h21 => ?_)
    · refine wp_iconst (v := 0) dX8_notsOpen_28 (by decide) rfl ?_
      refine wp_iadd dX8_notsOpen_29 rfl ?_
      refine wp_istore_n (l' := [_, some _, _]) dX8_notsOpen_30 rfl rfl ?_
      refine wp_iinc (l' := [_, _, some _]) (v := 1) dX8_notsOpen_31 rfl (by decide) rfl rfl ?_
      refine wp_goto (t := 4) dX8_notsOpen_34 rfl ?_
      have hs : nts wf (k + 1) = nts wf k := by show ctr _ k + _ = _; rw [if_neg (fun z => h21 (of_decide_eq_true z))]; rfl
      have h := ih hl
      rw [hs] at h
      rw [Int32.add_zero, nI_1]
      exact h
    · refine wp_iconst (v := 1) dX8_notsOpen_24 (by decide) rfl ?_
      refine wp_goto (t := 29) dX8_notsOpen_25 rfl ?_
      refine wp_iadd dX8_notsOpen_29 rfl ?_
      refine wp_istore_n (l' := [_, some _, _]) dX8_notsOpen_30 rfl rfl ?_
      refine wp_iinc (l' := [_, _, some _]) (v := 1) dX8_notsOpen_31 rfl (by decide) rfl rfl ?_
      refine wp_goto (t := 4) dX8_notsOpen_34 rfl ?_
      have hs : nts wf (k + 1) = nts wf k + 1 := by show ctr _ k + _ = _; rw [if_pos (decide_eq_true h21)]; rfl
      have h := ih hl
      rw [hs] at h
      rw [nI_1, nI_1]
      exact h
theorem c8_notsOpen {s : Sn} {wf : Fl} {h : Nat} (ew : s.1 (41, 8, 0) = wf) (e19 : s.1 (40, 0, 0) 19 = nI h) (hh : h ≤ 96) : Ca d MX8_notsOpen [vR 40 0 0] (hN s) (Pd (nI (nts wf h)) s) := by
  change Wp _ _ 0 [some _, none, none] [] _ _
  refine wp_iconst (v := 0) dX8_notsOpen_0 (by decide) rfl ?_
  refine wp_istore_n (l' := [_, some _, _]) dX8_notsOpen_1 rfl rfl ?_
  refine wp_iconst (v := 0) dX8_notsOpen_2 (by decide) rfl ?_
  refine wp_istore_n (l' := [_, _, some _]) dX8_notsOpen_3 rfl rfl ?_
  exact l8_nots ew e19 hh 0 (Nat.zero_le _)
/-- the piece at hand, as the reference has it -/
def TK (tp : Fl) (n f : Nat) (en : Int32) (r : Fl) : Prop := r 8 = nI f ∧ r 7 = nI (gN tp n f) ∧ r 9 = gT tp n f en ∧ (f < n → r 10 = gV tp n f 0) ∧ r 11 = gE tp n f en
theorem gV_0 {tp : Fl} {n f : Nat} {v : Int32} (h : f < n) : gV tp n f v = gV tp n f 0 := by
  unfold gV
  rw [if_neg (show ¬ f = n by omega), if_neg (show ¬ f = n by omega)]
theorem GO.tk {tp : Fl} {n k : Nat} {r r' : Fl} (h : GO tp n k r r') : TK tp n (gF tp n k) (r 11) r' := ⟨h.1.2.1, h.1.1, h.1.2.2.1, fun z => h.1.2.2.2.1.trans (gV_0 z), h.1.2.2.2.2⟩
abbrev nmQ (key T v : Int32) (l : Nat) : Prop := T = 1 ∧ l = 1 ∧ ¬ nmO key v < 0
abbrev ptQ (key T v : Int32) (l : Nat) : Prop := T = 2 ∨ nmQ key T v l
def ptC (key T v : Int32) : Int32 := if T = 2 then v else 10000 + nmO key v
theorem c8_takesPartN {s : Sn} {tp : Fl} {n f : Nat} {en key T v : Int32} (hn : n ≤ 96) (ht : s.1 (41, 4, 0) = tp) (h6 : s.1 (40, 0, 0) 6 = nI n) (h12 : s.1 (40, 0, 0) 12 = key) (hT : TK tp n f en (s.1 (40, 0, 0))) (hfn : f ≤ n) (eT : gT tp n f en = T) (ev : s.1 (40, 0, 0) 10 = v) (hq : ¬ ptQ key T v (gN tp n f - f)) : Ca (d + 2) MX8_takesPart [vR 40 0 0] (hN s) (Pd 0 s) := by
  change Wp _ _ 0 [some _, none] [] _ _
  have hgn := gN_le (tp := tp) hfn
  have e9 : s.1 (40, 0, 0) 9 = T := hT.2.2.1.trans eT
  refine wp_aload_n dX8_takesPart_0 rfl rfl ?_
  refine wn_getI dX8_takesPart_1 fRX8_189 o40 rfl rfl ?_
  rw [e9]
  refine wp_iconst (v := 1) dX8_takesPart_4 (by decide) rfl ?_
  refine wp_icmp_ne (t := 36) dX8_takesPart_5 rfl rfl (fun h5 => ?_) (fun h5 => ?_)
  · refine wp_iconst (v := 0) dX8_takesPart_36 (by decide) rfl ?_
    refine wp_istore_n (l' := [_, some _]) dX8_takesPart_37 rfl rfl ?_
    refine wp_aload_n dX8_takesPart_38 rfl rfl ?_
    refine wn_getI dX8_takesPart_39 fRX8_189 o40 rfl rfl ?_
    rw [e9]
    refine wp_iconst (v := 2) dX8_takesPart_42 (by decide) rfl ?_
    refine wp_icmp_eq (t := 52) dX8_takesPart_43 rfl rfl (fun h43 => (hq (Or.inl h43)).elim) (fun h43 => ?_)
    refine wp_iload_n dX8_takesPart_46 rfl rfl ?_
    refine wp_if_ne (t := 52) dX8_takesPart_47 rfl rfl (fun h47 => absurd rfl h47) (fun h47 => ?_)
    refine wp_iconst (v := 0) dX8_takesPart_50 (by decide) rfl ?_
    refine wp_iret dX8_takesPart_51 rfl (by decide) ?_
    exact Pd.mk
  · refine wp_aload_n dX8_takesPart_8 rfl rfl ?_
    refine wn_getI dX8_takesPart_9 fRX8_180 o40 rfl rfl ?_
    rw [hT.2.1]
    refine wp_aload_n dX8_takesPart_12 rfl rfl ?_
    refine wn_getI dX8_takesPart_13 fRX8_183 o40 rfl rfl ?_
    refine wp_isub dX8_takesPart_16 rfl ?_
    refine wp_iconst (v := 1) dX8_takesPart_17 (by decide) rfl ?_
    rw [hT.1, nI_subn (by omega)]
    refine wp_icmp_ne (t := 36) dX8_takesPart_18 rfl rfl (fun h18 => ?_) (fun h18 => ?_)
    · refine wp_iconst (v := 0) dX8_takesPart_36 (by decide) rfl ?_
      refine wp_istore_n (l' := [_, some _]) dX8_takesPart_37 rfl rfl ?_
      refine wp_aload_n dX8_takesPart_38 rfl rfl ?_
      refine wn_getI dX8_takesPart_39 fRX8_189 o40 rfl rfl ?_
      rw [e9]
      refine wp_iconst (v := 2) dX8_takesPart_42 (by decide) rfl ?_
      refine wp_icmp_eq (t := 52) dX8_takesPart_43 rfl rfl (fun h43 => (hq (Or.inl h43)).elim) (fun h43 => ?_)
      refine wp_iload_n dX8_takesPart_46 rfl rfl ?_
      refine wp_if_ne (t := 52) dX8_takesPart_47 rfl rfl (fun h47 => absurd rfl h47) (fun h47 => ?_)
      refine wp_iconst (v := 0) dX8_takesPart_50 (by decide) rfl ?_
      refine wp_iret dX8_takesPart_51 rfl (by decide) ?_
      exact Pd.mk
    · refine wp_aload_n dX8_takesPart_21 rfl rfl ?_
      refine wp_aload_n dX8_takesPart_22 rfl rfl ?_
      refine wn_getI dX8_takesPart_23 fRX8_195 o40 rfl rfl ?_
      rw [ev]
      refine wn_callV1d dX8_takesPart_26 rRX8_216 (rcv_of o40 rfl) (Nat.le_of_ble_eq_true rfl) rfl (Nat.le_of_ble_eq_true rfl) rfl (c8_nameOf) ?_
      rw [h12]
      refine wp_if_lt (t := 36) dX8_takesPart_29 rfl rfl (fun h29 => ?_) (fun h29 => (hq (Or.inr ⟨h5, (nI_eq (b := 1) (by omega) (by decide)).mp h18, h29⟩)).elim)
      refine wp_iconst (v := 0) dX8_takesPart_36 (by decide) rfl ?_
      refine wp_istore_n (l' := [_, some _]) dX8_takesPart_37 rfl rfl ?_
      refine wp_aload_n dX8_takesPart_38 rfl rfl ?_
      refine wn_getI dX8_takesPart_39 fRX8_189 o40 rfl rfl ?_
      rw [e9]
      refine wp_iconst (v := 2) dX8_takesPart_42 (by decide) rfl ?_
      refine wp_icmp_eq (t := 52) dX8_takesPart_43 rfl rfl (fun h43 => (hq (Or.inl h43)).elim) (fun h43 => ?_)
      refine wp_iload_n dX8_takesPart_46 rfl rfl ?_
      refine wp_if_ne (t := 52) dX8_takesPart_47 rfl rfl (fun h47 => absurd rfl h47) (fun h47 => ?_)
      refine wp_iconst (v := 0) dX8_takesPart_50 (by decide) rfl ?_
      refine wp_iret dX8_takesPart_51 rfl (by decide) ?_
      exact Pd.mk
end
