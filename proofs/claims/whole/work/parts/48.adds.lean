section
variable {d i j : Nat}
theorem c3_addLog {s : Sn} {f : Fl} {c : Nat} {k l m : Int32} (hi : i < 4) (hc : c < 12) (hV : RV s i f c) : Ca d MX3_addLog [vR 11 i 0, vI k, vI l, vI m] (hN s) (Pd 1 (cmS s i c k l m)) := by
  change Wp _ _ 0 [some _, some _, some _, some _, none] [] _ _
  have hlc : s.1 (11, i, 0) 6 = nI c := (hV.1.sc 1 (by decide)).trans hV.2.2.1
  refine wp_aload_n dX3_addLog_0 rfl rfl ?_
  refine wn_getI dX3_addLog_1 fRX3_36 (o11 hi) rfl rfl ?_
  rw [hlc]
  refine wp_bipush (v := 12) dX3_addLog_4 (by decide) rfl ?_
  refine wp_icmp_lt (t := 11) dX3_addLog_6 rfl rfl (fun h6 => ?_) (fun h6 => absurd ((nI_ltI (b := 12) (by omega) (by omega)).mpr hc) h6)
  refine wp_aload_n dX3_addLog_11 rfl rfl ?_
  refine wn_getR dX3_addLog_12 fRX3_11 (o11 hi) rfl rfl rfl ?_
  refine wp_aload_n dX3_addLog_15 rfl rfl ?_
  refine wn_getI dX3_addLog_16 fRX3_36 (o11 hi) rfl rfl ?_
  rw [hlc]
  refine wn_aald13 dX3_addLog_19 hi (nIx rfl (by omega)) (show c < 12 from hc) rfl ?_
  refine wp_astore (l' := [_, _, _, _, some _]) dX3_addLog_20 rfl rfl ?_
  refine wp_aload dX3_addLog_22 rfl rfl ?_
  refine wp_iload_n dX3_addLog_24 rfl rfl ?_
  refine wn_putI dX3_addLog_25 fRX3_82 (o12 hi (show c < 12 from hc)) rfl rfl rfl ?_
  refine wp_aload dX3_addLog_28 rfl rfl ?_
  refine wp_iload_n dX3_addLog_30 rfl rfl ?_
  refine wn_putI dX3_addLog_31 fRX3_85 (o12 hi (show c < 12 from hc)) rfl rfl rfl ?_
  refine wp_aload dX3_addLog_34 rfl rfl ?_
  refine wp_iload_n dX3_addLog_36 rfl rfl ?_
  refine wn_putI dX3_addLog_37 fRX3_88 (o12 hi (show c < 12 from hc)) rfl rfl rfl ?_
  refine wp_aload dX3_addLog_40 rfl rfl ?_
  refine wp_iconst (v := 0) dX3_addLog_42 (by decide) rfl ?_
  refine wn_putI dX3_addLog_43 fRX3_91 (o12 hi (show c < 12 from hc)) rfl rfl rfl ?_
  refine wp_aload dX3_addLog_46 rfl rfl ?_
  refine wp_iconst (v := 0) dX3_addLog_48 (by decide) rfl ?_
  refine wn_putI dX3_addLog_49 fRX3_94 (o12 hi (show c < 12 from hc)) rfl rfl rfl ?_
  refine wp_aload_n dX3_addLog_52 rfl rfl ?_
  refine wp_dup dX3_addLog_53 rfl rfl ?_
  refine wn_getI dX3_addLog_54 fRX3_36 (o11 hi) rfl rfl ?_
  rw [sI_nr (show ((11, i, 0) : Rf) ≠ (12, i, c) by intro z; exact absurd (congrArg Prod.fst z) (by show ¬ 11 = 12; decide)), sI_nr (show ((11, i, 0) : Rf) ≠ (12, i, c) by intro z; exact absurd (congrArg Prod.fst z) (by show ¬ 11 = 12; decide)), sI_nr (show ((11, i, 0) : Rf) ≠ (12, i, c) by intro z; exact absurd (congrArg Prod.fst z) (by show ¬ 11 = 12; decide)), sI_nr (show ((11, i, 0) : Rf) ≠ (12, i, c) by intro z; exact absurd (congrArg Prod.fst z) (by show ¬ 11 = 12; decide)), sI_nr (show ((11, i, 0) : Rf) ≠ (12, i, c) by intro z; exact absurd (congrArg Prod.fst z) (by show ¬ 11 = 12; decide)), hlc]
  refine wp_iconst (v := 1) dX3_addLog_57 (by decide) rfl ?_
  refine wp_iadd dX3_addLog_58 rfl ?_
  rw [nI_1]
  refine wn_putI dX3_addLog_59 fRX3_36 (o11 hi) rfl rfl rfl ?_
  refine wp_iconst (v := 1) dX3_addLog_62 (by decide) rfl ?_
  refine wp_iret dX3_addLog_63 rfl (by decide) ?_
  exact Pd.mk
theorem c3_addLogNo {s : Sn} {f : Fl} {k l m : Int32} (hi : i < 4) (hV : RV s i f 12) : Ca d MX3_addLog [vR 11 i 0, vI k, vI l, vI m] (hN s) (Pd 0 s) := by
  change Wp _ _ 0 [some _, some _, some _, some _, none] [] _ _
  have hlc : s.1 (11, i, 0) 6 = nI 12 := (hV.1.sc 1 (by decide)).trans hV.2.2.1
  refine wp_aload_n dX3_addLog_0 rfl rfl ?_
  refine wn_getI dX3_addLog_1 fRX3_36 (o11 hi) rfl rfl ?_
  rw [hlc]
  refine wp_bipush (v := 12) dX3_addLog_4 (by decide) rfl ?_
  refine wp_icmp_lt (t := 11) dX3_addLog_6 rfl rfl (fun h6 => absurd h6 (by decide)) (fun h6 => ?_)
  refine wp_iconst (v := 0) dX3_addLog_9 (by decide) rfl ?_
  refine wp_iret dX3_addLog_10 rfl (by decide) ?_
  exact Pd.mk
/-- a letter comes -/
def ltf (f : Fl) (n : Nat) (x : Int32) : Fl := upd (upd f (9 + n) x) 7 (nI (n + 1))
def ltS (s : Sn) (i n : Nat) (x : Int32) : Sn := sI (sI s (17, i, 0) n x) (11, i, 0) 7 (nI (n + 1))
theorem ltS_RV {s : Sn} {f : Fl} {c n : Nat} {x : Int32} (hn : n < 12) (hV : RV s i f c) : RV (ltS s i n x) i (ltf f n x) c := by
  obtain ⟨hR, h13, h1, hc⟩ := hV
  refine ⟨RC.pt (q := ((11, i, 0), 7)) (RC.pt (q := ((17, i, 0), n)) hR (rc_wd hn) (by omega)) (show rc i 7 = _ from rfl) (by decide), ?_, ?_, hc⟩
  · unfold ltf ltS
    rw [sI_nk (by decide), sI_nr (show ((11, i, 0) : Rf) ≠ (17, i, 0) by intro z; exact absurd (congrArg Prod.fst z) (by show ¬ 11 = 17; decide)), mny_lo (by decide) (by decide), mny_lo (by omega) (by omega)]
    exact h13
  · unfold ltf
    rw [upd_ne (by decide), upd_ne (by omega)]; exact h1
theorem c3_addLetter {s : Sn} {f : Fl} {n : Nat} {x : Int32} (hi : i < 4) (hn : n < 12) (hR : RC s i f) (h7 : f 7 = nI n) : Ca d MX3_addLetter [vR 11 i 0, vI x] (hN s) (Pd 1 (ltS s i n x)) := by
  change Wp _ _ 0 [some _, some _] [] _ _
  have hlc : s.1 (11, i, 0) 7 = nI n := (hR.sc 7 (by decide)).trans h7
  refine wp_aload_n dX3_addLetter_0 rfl rfl ?_
  refine wn_getI dX3_addLetter_1 fRX3_40 (o11 hi) rfl rfl ?_
  rw [hlc]
  refine wp_bipush (v := 12) dX3_addLetter_4 (by decide) rfl ?_
  refine wp_icmp_lt (t := 11) dX3_addLetter_6 rfl rfl (fun h6 => ?_) (fun h6 => absurd ((nI_ltI (b := 12) (by omega) (by omega)).mpr hn) h6)
  refine wp_aload_n dX3_addLetter_11 rfl rfl ?_
  refine wn_getR dX3_addLetter_12 fRX3_27 (o11 hi) rfl rfl rfl ?_
  refine wp_aload_n dX3_addLetter_15 rfl rfl ?_
  refine wn_getI dX3_addLetter_16 fRX3_40 (o11 hi) rfl rfl ?_
  rw [hlc]
  refine wp_iload_n dX3_addLetter_19 rfl rfl ?_
  refine wn_iast dX3_addLetter_20 (o17 hi) rfl (nIx rfl (by omega)) (show n < 12 from hn) rfl ?_
  refine wp_aload_n dX3_addLetter_21 rfl rfl ?_
  refine wp_dup dX3_addLetter_22 rfl rfl ?_
  refine wn_getI dX3_addLetter_23 fRX3_40 (o11 hi) rfl rfl ?_
  rw [sI_nr (show ((11, i, 0) : Rf) ≠ (17, i, 0) by intro z; exact absurd (congrArg Prod.fst z) (by show ¬ 11 = 17; decide)), hlc]
  refine wp_iconst (v := 1) dX3_addLetter_26 (by decide) rfl ?_
  refine wp_iadd dX3_addLetter_27 rfl ?_
  rw [nI_1]
  refine wn_putI dX3_addLetter_28 fRX3_40 (o11 hi) rfl rfl rfl ?_
  refine wp_iconst (v := 1) dX3_addLetter_31 (by decide) rfl ?_
  refine wp_iret dX3_addLetter_32 rfl (by decide) ?_
  exact Pd.mk
theorem c3_addLetterNo {s : Sn} {f : Fl} {x : Int32} (hi : i < 4) (hR : RC s i f) (h7 : f 7 = nI 12) : Ca d MX3_addLetter [vR 11 i 0, vI x] (hN s) (Pd 0 s) := by
  change Wp _ _ 0 [some _, some _] [] _ _
  have hlc : s.1 (11, i, 0) 7 = nI 12 := (hR.sc 7 (by decide)).trans h7
  refine wp_aload_n dX3_addLetter_0 rfl rfl ?_
  refine wn_getI dX3_addLetter_1 fRX3_40 (o11 hi) rfl rfl ?_
  rw [hlc]
  refine wp_bipush (v := 12) dX3_addLetter_4 (by decide) rfl ?_
  refine wp_icmp_lt (t := 11) dX3_addLetter_6 rfl rfl (fun h6 => absurd h6 (by decide)) (fun h6 => ?_)
  refine wp_iconst (v := 0) dX3_addLetter_9 (by decide) rfl ?_
  refine wp_iret dX3_addLetter_10 rfl (by decide) ?_
  exact Pd.mk
end
