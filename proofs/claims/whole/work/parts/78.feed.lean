/-! THE PURE PART, 59: feed, trim -/
section
variable {d i j : Nat}
abbrev i8 (v : Int32) : Int32 := v.toInt8.toInt32
theorem i8_i8 (v : Int32) : i8 (i8 v) = i8 v := by
  unfold i8
  rw [Int8.toInt8_toInt32]
theorem m255 : ∀ i, i < 8 → (255#32).getLsbD i = true := by decide
theorem bv8 (x : BitVec 32) (n : Nat) (hn : n ≤ 24) : (x.sshiftRight n &&& 255#32).signExtend 8 = (x >>> n).signExtend 8 := by
  apply BitVec.eq_of_getLsbD_eq
  intro i hi
  rw [BitVec.getLsbD_signExtend, BitVec.getLsbD_signExtend, if_pos (show i < 32 by omega), if_pos (show i < 32 by omega), BitVec.getLsbD_and, BitVec.getLsbD_sshiftRight, BitVec.getLsbD_ushiftRight, m255 i hi, if_pos (show n + i < 32 by omega), decide_eq_false (show ¬ 32 ≤ i by omega), Bool.not_false, Bool.true_and, Bool.and_true]
theorem sh8 : ∀ j, j < 4 → ∀ v : Int32, i8 ((v >>> (nI (24 - 8 * j) &&& 31)) &&& 255) = i8 (ush v (nI (24 - 8 * j))) := by
  intro j hj v
  have h : ((v >>> (nI (24 - 8 * j) &&& 31)) &&& 255).toInt8 = (ush v (nI (24 - 8 * j))).toInt8 := by
    apply Int8.toBitVec_inj.mp
    rcases (by omega : j = 0 ∨ j = 1 ∨ j = 2 ∨ j = 3) with e | e | e | e <;> subst e
    · exact bv8 v.toBitVec 24 (by decide)
    · exact bv8 v.toBitVec 16 (by decide)
    · exact bv8 v.toBitVec 8 (by decide)
    · exact bv8 v.toBitVec 0 (by decide)
  unfold i8
  rw [h]
theorem b256 (x : Int32) : ∃ b, b < 256 ∧ x &&& 255 = nI b := by
  refine ⟨(x.toBitVec &&& 255#32).toNat, ?_, ?_⟩
  · rw [BitVec.toNat_and]
    exact Nat.lt_of_le_of_lt Nat.and_le_right (by decide)
  · apply Int32.toBitVec_inj.mp
    show x.toBitVec &&& 255#32 = BitVec.ofNat 32 (x.toBitVec &&& 255#32).toNat
    rw [BitVec.ofNat_toNat, BitVec.setWidth_eq]
/-- the class's bytes stand for the reference's tape -/
def TP (s : Sn) (tp : Fl) (n : Nat) : Prop := s.1 (21, 0, 0) 1 = nI n ∧ ∀ k, k < 96 → s.1 (22, 0, 0) k = i8 (tp k)
def TQ (tp : Fl) : Prop := ∀ k, k < 96 → ∃ b, b < 256 ∧ tp k = nI b
def fw (a b c : Int32) (k : Nat) : Int32 := if k < 4 then a else if k < 8 then b else c
def fbt (a b c : Int32) (k : Nat) : Int32 := (fw a b c k >>> (nI (24 - 8 * (k % 4)) &&& 31)) &&& 255
def fdT (tp : Fl) (a b c : Int32) (n k : Nat) : Fl := fun q => if n ≤ q ∧ q < n + k then fbt a b c (q - n) else tp q
theorem fdT_0 {tp : Fl} {a b c : Int32} {n : Nat} : fdT tp a b c n 0 = tp := by
  funext q
  exact if_neg (by omega)
theorem fdT_s {tp : Fl} {a b c : Int32} {n k : Nat} : upd (fdT tp a b c n k) (n + k) (fbt a b c k) = fdT tp a b c n (k + 1) := by
  funext q
  by_cases e : q = n + k
  · rw [e, upd_eq]
    refine ((if_pos (by omega)).trans ?_).symm
    rw [show n + k - n = k by omega]
  · rw [upd_ne e]
    show (if n ≤ q ∧ q < n + k then fbt a b c (q - n) else tp q) = if n ≤ q ∧ q < n + (k + 1) then fbt a b c (q - n) else tp q
    by_cases e2 : n ≤ q ∧ q < n + k
    · rw [if_pos e2, if_pos (by omega)]
    · rw [if_neg e2, if_neg (by omega)]
def fdA (n : Nat) : Int32 := if n ≤ 84 then nI (n + 12) else -1000000003
def fdF (tp : Fl) (a b c : Int32) (n : Nat) : Fl := if n ≤ 84 then fdT tp a b c n 12 else tp
def fdN (n : Nat) : Nat := if n ≤ 84 then n + 12 else n
theorem TQ.fd {tp : Fl} {a b c : Int32} {n : Nat} (h : TQ tp) : TQ (fdF tp a b c n) := fun k hk => by
  unfold fdF
  by_cases e : n ≤ 84
  · rw [if_pos e]
    unfold fdT
    by_cases e2 : n ≤ k ∧ k < n + 12
    · rw [if_pos e2]; exact b256 _
    · rw [if_neg e2]; exact h k hk
  · rw [if_neg e]; exact h k hk
theorem shx : ∀ k, k < 12 → (24 : Int32) - 8 * (nI k - nI k / 4 * 4) = nI (24 - 8 * (k % 4)) := by decide
theorem l8_feed {s : Sn} {a b c : Int32} {n : Nat} (hn : n ≤ 84) (h6 : s.1 (40, 0, 0) 6 = nI n) : ∀ k, k ≤ 12 → ∀ s1 : Sn, s1.1 (41, 4, 0) = fdT (s.1 (41, 4, 0)) a b c n k → Fr [(41, 4, 0)] s s1 → ∀ c5, Wp d MX8_feed 18 [some (vR 40 0 0), some (vI a), some (vI b), some (vI c), some (vI (nI k)), c5] [] (hN s1) (Pv fun z t => z = nI (n + 12) ∧ t.1 (41, 4, 0) = fdT (s.1 (41, 4, 0)) a b c n 12 ∧ t.1 (40, 0, 0) = upd (s.1 (40, 0, 0)) 6 (nI (n + 12)) ∧ Fr [(41, 4, 0), (40, 0, 0)] s t) := by
  refine ind_up (fun k hk ih => ?_)
  intro s1 e1 hF c5
  have e6 : s1.1 (40, 0, 0) = s.1 (40, 0, 0) := hF.1 _ (by decide)
  refine wp_iload dX8_feed_18 rfl rfl ?_
  refine wp_bipush (v := 12) dX8_feed_20 (by decide) rfl ?_
  refine wp_icmp_ge (t := 84) dX8_feed_22 rfl rfl (fun h22 => ?_) (fun h22 => ?_)
  · have hk2 : k = 12 := by have := (nI_leI (a := 12) (by omega) (by omega)).mp h22; omega
    subst hk2
    refine wp_aload_n dX8_feed_84 rfl rfl ?_
    refine wp_dup dX8_feed_85 rfl rfl ?_
    refine wn_getI dX8_feed_86 fRX8_176 o40 rfl rfl ?_
    refine wp_bipush (v := 12) dX8_feed_89 (by decide) rfl ?_
    refine wp_iadd dX8_feed_91 rfl ?_
    rw [e6, h6, show (12 : Int32) = nI 12 from rfl, nI_add]
    refine wn_putI dX8_feed_92 fRX8_176 o40 rfl rfl rfl ?_
    refine wp_aload_n dX8_feed_95 rfl rfl ?_
    refine wn_getI dX8_feed_96 fRX8_176 o40 rfl rfl ?_
    refine wp_iret dX8_feed_99 rfl rfl ?_
    refine ⟨_, _, rfl, rfl, ?_, ?_, ?_, (hF.wd (by decide)).pt (by decide)⟩
    · rw [sI_row, upd_eq]
    · rw [sI_nr (by decide)]; exact e1
    · rw [sI_row, e6]
  · have hl : k < 12 := by have := mt (nI_leI (a := 12) (by omega) (by omega)).mpr h22; omega
    refine wp_iload dX8_feed_25 rfl rfl ?_
    refine wp_iconst (v := 4) dX8_feed_27 (by decide) rfl ?_
    refine wp_icmp_ge (t := 35) dX8_feed_28 rfl rfl (fun h28 => ?_) (fun h28 => ?_)
    · have hk4 : ¬ k < 4 := by have := (nI_leI (a := 4) (by omega) (by omega)).mp h28; omega
      refine wp_iload dX8_feed_35 rfl rfl ?_
      refine wp_bipush (v := 8) dX8_feed_37 (by decide) rfl ?_
      refine wp_icmp_ge (t := 46) dX8_feed_39 rfl rfl (fun h39 => ?_) (fun h39 => ?_)
      · have hk8 : ¬ k < 8 := by have := (nI_leI (a := 8) (by omega) (by omega)).mp h39; omega
        refine wp_iload_n dX8_feed_46 rfl rfl ?_
        refine wp_istore (l' := [_, _, _, _, _, some _]) dX8_feed_47 rfl rfl ?_
        refine wp_aload_n dX8_feed_49 rfl rfl ?_
        refine wn_getR dX8_feed_50 fRX8_22 o40 rfl rfl rfl ?_
        refine wp_aload_n dX8_feed_53 rfl rfl ?_
        refine wn_getI dX8_feed_54 fRX8_176 o40 rfl rfl ?_
        refine wp_iload dX8_feed_57 rfl rfl ?_
        refine wp_iadd dX8_feed_59 rfl ?_
        rw [e6, h6, nI_add]
        refine wp_iload dX8_feed_60 rfl rfl ?_
        refine wp_bipush (v := 24) dX8_feed_62 (by decide) rfl ?_
        refine wp_bipush (v := 8) dX8_feed_64 (by decide) rfl ?_
        refine wp_iload dX8_feed_66 rfl rfl ?_
        refine wp_iconst (v := 4) dX8_feed_68 (by decide) rfl ?_
        refine wp_irem dX8_feed_69 (by decide) rfl ?_
        refine wp_imul dX8_feed_70 rfl ?_
        refine wp_isub dX8_feed_71 rfl ?_
        rw [shx k hl]
        refine wp_ishr dX8_feed_72 rfl ?_
        refine wp_sipush (v := 255) dX8_feed_73 (by decide) rfl ?_
        refine wp_iand dX8_feed_76 rfl ?_
        refine wn_iast dX8_feed_77 (o41 4 rfl) rfl (nIx rfl (by omega)) (show n + k < 96 by omega) rfl ?_
        refine wp_iinc (l' := [_, _, _, _, some _, _]) (v := 1) dX8_feed_78 rfl (by decide) rfl rfl ?_
        refine wp_goto (t := 18) dX8_feed_81 rfl ?_
        have hv : fbt a b c k = (c >>> (nI (24 - 8 * (k % 4)) &&& 31)) &&& 255 := by unfold fbt fw; rw [if_neg hk4, if_neg hk8]
        rw [nI_1]
        refine ih hl _ (by rw [sI_row, e1, ← fdT_s, hv]) (hF.pt (by decide)) _
      · have hk8 : k < 8 := by have := mt (nI_leI (a := 8) (by omega) (by omega)).mpr h39; omega
        refine wp_iload_n dX8_feed_42 rfl rfl ?_
        refine wp_goto (t := 47) dX8_feed_43 rfl ?_
        refine wp_istore (l' := [_, _, _, _, _, some _]) dX8_feed_47 rfl rfl ?_
        refine wp_aload_n dX8_feed_49 rfl rfl ?_
        refine wn_getR dX8_feed_50 fRX8_22 o40 rfl rfl rfl ?_
        refine wp_aload_n dX8_feed_53 rfl rfl ?_
        refine wn_getI dX8_feed_54 fRX8_176 o40 rfl rfl ?_
        refine wp_iload dX8_feed_57 rfl rfl ?_
        refine wp_iadd dX8_feed_59 rfl ?_
        rw [e6, h6, nI_add]
        refine wp_iload dX8_feed_60 rfl rfl ?_
        refine wp_bipush (v := 24) dX8_feed_62 (by decide) rfl ?_
        refine wp_bipush (v := 8) dX8_feed_64 (by decide) rfl ?_
        refine wp_iload dX8_feed_66 rfl rfl ?_
        refine wp_iconst (v := 4) dX8_feed_68 (by decide) rfl ?_
        refine wp_irem dX8_feed_69 (by decide) rfl ?_
        refine wp_imul dX8_feed_70 rfl ?_
        refine wp_isub dX8_feed_71 rfl ?_
        rw [shx k hl]
        refine wp_ishr dX8_feed_72 rfl ?_
        refine wp_sipush (v := 255) dX8_feed_73 (by decide) rfl ?_
        refine wp_iand dX8_feed_76 rfl ?_
        refine wn_iast dX8_feed_77 (o41 4 rfl) rfl (nIx rfl (by omega)) (show n + k < 96 by omega) rfl ?_
        refine wp_iinc (l' := [_, _, _, _, some _, _]) (v := 1) dX8_feed_78 rfl (by decide) rfl rfl ?_
        refine wp_goto (t := 18) dX8_feed_81 rfl ?_
        have hv : fbt a b c k = (b >>> (nI (24 - 8 * (k % 4)) &&& 31)) &&& 255 := by unfold fbt fw; rw [if_neg hk4, if_pos hk8]
        rw [nI_1]
        refine ih hl _ (by rw [sI_row, e1, ← fdT_s, hv]) (hF.pt (by decide)) _
    · have hk4 : k < 4 := by have := mt (nI_leI (a := 4) (by omega) (by omega)).mpr h28; omega
      refine wp_iload_n dX8_feed_31 rfl rfl ?_
      refine wp_goto (t := 47) dX8_feed_32 rfl ?_
      refine wp_istore (l' := [_, _, _, _, _, some _]) dX8_feed_47 rfl rfl ?_
      refine wp_aload_n dX8_feed_49 rfl rfl ?_
      refine wn_getR dX8_feed_50 fRX8_22 o40 rfl rfl rfl ?_
      refine wp_aload_n dX8_feed_53 rfl rfl ?_
      refine wn_getI dX8_feed_54 fRX8_176 o40 rfl rfl ?_
      refine wp_iload dX8_feed_57 rfl rfl ?_
      refine wp_iadd dX8_feed_59 rfl ?_
      rw [e6, h6, nI_add]
      refine wp_iload dX8_feed_60 rfl rfl ?_
      refine wp_bipush (v := 24) dX8_feed_62 (by decide) rfl ?_
      refine wp_bipush (v := 8) dX8_feed_64 (by decide) rfl ?_
      refine wp_iload dX8_feed_66 rfl rfl ?_
      refine wp_iconst (v := 4) dX8_feed_68 (by decide) rfl ?_
      refine wp_irem dX8_feed_69 (by decide) rfl ?_
      refine wp_imul dX8_feed_70 rfl ?_
      refine wp_isub dX8_feed_71 rfl ?_
      rw [shx k hl]
      refine wp_ishr dX8_feed_72 rfl ?_
      refine wp_sipush (v := 255) dX8_feed_73 (by decide) rfl ?_
      refine wp_iand dX8_feed_76 rfl ?_
      refine wn_iast dX8_feed_77 (o41 4 rfl) rfl (nIx rfl (by omega)) (show n + k < 96 by omega) rfl ?_
      refine wp_iinc (l' := [_, _, _, _, some _, _]) (v := 1) dX8_feed_78 rfl (by decide) rfl rfl ?_
      refine wp_goto (t := 18) dX8_feed_81 rfl ?_
      have hv : fbt a b c k = (a >>> (nI (24 - 8 * (k % 4)) &&& 31)) &&& 255 := by unfold fbt fw; rw [if_pos hk4]
      rw [nI_1]
      refine ih hl _ (by rw [sI_row, e1, ← fdT_s, hv]) (hF.pt (by decide)) _
theorem c8_feed {s : Sn} {a b c : Int32} {n : Nat} (hn : n ≤ 96) (h6 : s.1 (40, 0, 0) 6 = nI n) : Ca d MX8_feed [vR 40 0 0, vI a, vI b, vI c] (hN s) (Pv fun z t => z = fdA n ∧ t.1 (41, 4, 0) = fdF (s.1 (41, 4, 0)) a b c n ∧ t.1 (40, 0, 0) = upd (s.1 (40, 0, 0)) 6 (nI (fdN n)) ∧ Fr [(41, 4, 0), (40, 0, 0)] s t) := by
  change Wp _ _ 0 [some _, some _, some _, some _, none, none] [] _ _
  refine wp_aload_n dX8_feed_0 rfl rfl ?_
  refine wn_getI dX8_feed_1 fRX8_176 o40 rfl rfl ?_
  refine wp_bipush (v := 12) dX8_feed_4 (by decide) rfl ?_
  refine wp_iadd dX8_feed_6 rfl ?_
  refine wp_bipush (v := 96) dX8_feed_7 (by decide) rfl ?_
  rw [h6, show (12 : Int32) = nI 12 from rfl, nI_add]
  refine wp_icmp_le (t := 15) dX8_feed_9 rfl rfl (fun h9 => ?_) (fun h9 => ?_)
  · have hn84 : n ≤ 84 := by have := (nI_leI (b := 96) (by omega) (by decide)).mp h9; omega
    refine wp_iconst (v := 0) dX8_feed_15 (by decide) rfl ?_
    refine wp_istore (l' := [_, _, _, _, some _, _]) dX8_feed_16 rfl rfl ?_
    rw [show fdA n = nI (n + 12) from if_pos hn84, show fdF (s.1 (41, 4, 0)) a b c n = fdT (s.1 (41, 4, 0)) a b c n 12 from if_pos hn84, show fdN n = n + 12 from if_pos hn84]
    exact l8_feed hn84 h6 0 (Nat.zero_le _) s (by rw [fdT_0]) Fr.rf _
  · refine wp_ldc dX8_feed_12 kRX8_84 rfl ?_
    refine wp_iret dX8_feed_14 rfl rfl ?_
    have hn84 : ¬ n ≤ 84 := by have := mt (nI_leI (b := 96) (by omega) (by decide)).mpr h9; omega
    refine ⟨_, _, rfl, rfl, (if_neg hn84).symm, (if_neg hn84).symm, ?_, Fr.rf⟩
    rw [show fdN n = n from if_neg hn84, ← h6, upd_self2]
def adB (g : Fl) (v : Int32) (n k : Nat) : Fl := fun q => if n ≤ q ∧ q < n + k then i8 (ush v (nI (24 - 8 * (q - n)))) else g q
theorem adB_0 {g : Fl} {v : Int32} {n : Nat} : adB g v n 0 = g := by
  funext q
  exact if_neg (by omega)
theorem adB_s {g : Fl} {v : Int32} {n k : Nat} : upd (adB g v n k) (n + k) (i8 (ush v (nI (24 - 8 * k)))) = adB g v n (k + 1) := by
  funext q
  by_cases e : q = n + k
  · rw [e, upd_eq]
    refine ((if_pos (by omega)).trans ?_).symm
    rw [show n + k - n = k by omega]
  · rw [upd_ne e]
    show (if n ≤ q ∧ q < n + k then i8 (ush v (nI (24 - 8 * (q - n)))) else g q) = if n ≤ q ∧ q < n + (k + 1) then i8 (ush v (nI (24 - 8 * (q - n)))) else g q
    by_cases e2 : n ≤ q ∧ q < n + k
    · rw [if_pos e2, if_pos (by omega)]
    · rw [if_neg e2, if_neg (by omega)]
theorem sh_k : ∀ k, k < 4 → (24 : Int32) - nI (8 * k) = nI (24 - 8 * k) ∧ nI (24 - 8 * k) + -8 = (24 : Int32) - nI (8 * (k + 1)) := by decide
theorem sh_p : ∀ k, k < 4 → ¬ (24 : Int32) - nI (8 * k) < 0 := by decide
theorem l6_add {s : Sn} {v : Int32} {n : Nat} (hn : n + 4 ≤ 96) (h1 : s.1 (21, 0, 0) 1 = nI n) : ∀ k, k ≤ 4 → ∀ s1 : Sn, s1.1 (21, 0, 0) 1 = nI (n + k) → s1.1 (22, 0, 0) = adB (s.1 (22, 0, 0)) v n k → FQ (fun r => r = (21, 0, 0) ∨ r = (22, 0, 0)) s s1 → Wp d MX6_addBytesOf 3 [some (vR 21 0 0), some (vI v), some (vI ((24 : Int32) - nI (8 * k)))] [] (hN s1) (Pn fun t => t.1 (21, 0, 0) 1 = nI (n + 4) ∧ t.1 (22, 0, 0) = adB (s.1 (22, 0, 0)) v n 4 ∧ FQ (fun r => r = (21, 0, 0) ∨ r = (22, 0, 0)) s t) := by
  refine ind_up (fun k hk ih => ?_)
  intro s1 e1 e2 hF
  by_cases hk4 : k < 4
  · refine wp_iload_n dX6_addBytesOf_3 rfl rfl ?_
    refine wp_if_lt (t := 45) dX6_addBytesOf_4 rfl rfl (fun h4 => absurd h4 (sh_p k hk4)) (fun h4 => ?_)
    refine wp_aload_n dX6_addBytesOf_7 rfl rfl ?_
    refine wn_getI dX6_addBytesOf_8 fRX6_15 o21 rfl rfl ?_
    rw [e1]
    refine wp_bipush (v := 96) dX6_addBytesOf_11 (by decide) rfl ?_
    refine wp_icmp_ge (t := 45) dX6_addBytesOf_13 rfl rfl (fun h13 => absurd ((nI_leI (a := 96) (by decide) (by omega)).mp h13) (by omega)) (fun h13 => ?_)
    refine wp_aload_n dX6_addBytesOf_16 rfl rfl ?_
    refine wn_getR dX6_addBytesOf_17 fRX6_9 o21 rfl rfl rfl ?_
    refine wp_aload_n dX6_addBytesOf_20 rfl rfl ?_
    refine wn_getI dX6_addBytesOf_21 fRX6_15 o21 rfl rfl ?_
    rw [e1]
    refine wp_iload_n dX6_addBytesOf_24 rfl rfl ?_
    refine wp_iload_n dX6_addBytesOf_25 rfl rfl ?_
    refine wp_iushr dX6_addBytesOf_26 rfl ?_
    refine wp_i2b dX6_addBytesOf_27 rfl ?_
    rw [(sh_k k hk4).1]
    refine wn_bast dX6_addBytesOf_28 o22 rfl (nIx rfl (by omega)) (show n + k < 96 by omega) rfl ?_
    rw [show ∀ x : Int32, vp_nar .byte (x.toInt8.toInt32) = x.toInt8.toInt32 from i8_i8]
    refine wp_aload_n dX6_addBytesOf_29 rfl rfl ?_
    refine wp_dup dX6_addBytesOf_30 rfl rfl ?_
    refine wn_getI dX6_addBytesOf_31 fRX6_15 o21 rfl rfl ?_
    rw [sI_nr (by decide), e1]
    refine wp_iconst (v := 1) dX6_addBytesOf_34 (by decide) rfl ?_
    refine wp_iadd dX6_addBytesOf_35 rfl ?_
    rw [nI_1, Nat.add_assoc]
    refine wn_putI dX6_addBytesOf_36 fRX6_15 o21 rfl rfl rfl ?_
    refine wp_iinc (l' := [_, _, some _]) (v := (-8)) dX6_addBytesOf_39 rfl (by decide) rfl rfl ?_
    refine wp_goto (t := 3) dX6_addBytesOf_42 rfl ?_
    rw [(sh_k k hk4).2]
    refine ih hk4 _ (by rw [sI_row, upd_eq]; rfl) (by rw [sI_nr (by decide), sI_row, e2, ← adB_s]; rfl) ((hF.pt (Or.inr rfl)).pt (Or.inl rfl))
  · have hk2 : k = 4 := by omega
    subst hk2
    refine wp_iload_n dX6_addBytesOf_3 rfl rfl ?_
    refine wp_if_lt (t := 45) dX6_addBytesOf_4 rfl rfl (fun h4 => ?_) (fun h4 => absurd (by decide) h4)
    refine wp_ret dX6_addBytesOf_45 rfl ?_
    exact ⟨_, rfl, rfl, e1, e2, hF⟩
theorem c6_add {s : Sn} {v : Int32} {n : Nat} (hn : n + 4 ≤ 96) (h1 : s.1 (21, 0, 0) 1 = nI n) : Ca d MX6_addBytesOf [vR 21 0 0, vI v] (hN s) (Pn fun t => t.1 (21, 0, 0) 1 = nI (n + 4) ∧ t.1 (22, 0, 0) = adB (s.1 (22, 0, 0)) v n 4 ∧ FQ (fun r => r = (21, 0, 0) ∨ r = (22, 0, 0)) s t) := by
  change Wp _ _ 0 [some _, some _, none] [] _ _
  refine wp_bipush (v := 24) dX6_addBytesOf_0 (by decide) rfl ?_
  refine wp_istore_n (l' := [_, _, some _]) dX6_addBytesOf_2 rfl rfl ?_
  exact l6_add hn h1 0 (Nat.zero_le _) s h1 (by rw [adB_0]) FQ.rf
theorem fd_cl {tp g : Fl} {a b c : Int32} {n q : Nat} (h : g q = i8 (tp q)) (hq : q < 96) (hn : n ≤ 84) : adB (adB (adB g a n 4) b (n + 4) 4) c (n + 4 + 4) 4 q = i8 (fdT tp a b c n 12 q) := by
  unfold adB fdT
  by_cases e : n ≤ q ∧ q < n + 12
  · rw [if_pos e]
    unfold fbt fw
    by_cases e4 : q < n + 4
    · rw [if_neg (by omega), if_neg (by omega), if_pos (by omega), if_pos (by omega), show (q - n) % 4 = q - n by omega]
      exact (sh8 (q - n) (by omega) a).symm
    · by_cases e8 : q < n + 8
      · rw [if_neg (by omega), if_pos (by omega), if_neg (by omega), if_pos (by omega), show (q - n) % 4 = q - (n + 4) by omega]
        exact (sh8 (q - (n + 4)) (by omega) b).symm
      · rw [if_pos (by omega), if_neg (by omega), if_neg (by omega), show (q - n) % 4 = q - (n + 4 + 4) by omega]
        exact (sh8 (q - (n + 4 + 4)) (by omega) c).symm
  · rw [if_neg e, if_neg (by omega), if_neg (by omega), if_neg (by omega)]
    exact h
theorem c7_feed {s : Sn} {tp : Fl} {a b c : Int32} {n : Nat} (hn : n ≤ 96) (h : TP s tp n) : Ca (d + 1) MX7_feed [vR 10 0 0, vI a, vI b, vI c] (hN s) (Pv fun z t => z = fdA n ∧ TP t (fdF tp a b c n) (fdN n) ∧ FQ (fun r => r = (21, 0, 0) ∨ r = (22, 0, 0)) s t) := by
  change Wp _ _ 0 [some _, some _, some _, some _, none] [] _ _
  refine wp_aload_n dX7_feed_0 rfl rfl ?_
  refine wn_getR dX7_feed_1 fRX7_28 o10 rfl rfl rfl ?_
  refine wn_getR dX7_feed_4 fRX7_221 o20 rfl rfl rfl ?_
  refine wp_astore (l' := [_, _, _, _, some _]) dX7_feed_7 rfl rfl ?_
  refine wp_aload dX7_feed_9 rfl rfl ?_
  refine wn_getI dX7_feed_11 fRX7_225 o21 rfl rfl ?_
  refine wp_bipush (v := 84) dX7_feed_14 (by decide) rfl ?_
  rw [h.1]
  refine wp_icmp_le (t := 22) dX7_feed_16 rfl rfl (fun h16 => ?_) (fun h16 => ?_)
  · have hn84 : n ≤ 84 := (nI_leI (b := 84) (by omega) (by decide)).mp h16
    refine wp_aload dX7_feed_22 rfl rfl ?_
    refine wp_iload_n dX7_feed_24 rfl rfl ?_
    refine wn_callV1n dX7_feed_25 rRX7_230 (rcv_of o21 rfl) (Nat.le_of_ble_eq_true rfl) rfl (Nat.le_of_ble_eq_true rfl) rfl (c6_add (n := n) (by omega) h.1) (fun s25 hq25 => ?_)
    obtain ⟨e25, g25, hF25⟩ := hq25
    refine wp_aload dX7_feed_28 rfl rfl ?_
    refine wp_iload_n dX7_feed_30 rfl rfl ?_
    refine wn_callV1n dX7_feed_31 rRX7_230 (rcv_of o21 rfl) (Nat.le_of_ble_eq_true rfl) rfl (Nat.le_of_ble_eq_true rfl) rfl (c6_add (n := n + 4) (by omega) e25) (fun s31 hq31 => ?_)
    obtain ⟨e31, g31, hF31⟩ := hq31
    refine wp_aload dX7_feed_34 rfl rfl ?_
    refine wp_iload_n dX7_feed_36 rfl rfl ?_
    refine wn_callV1n dX7_feed_37 rRX7_230 (rcv_of o21 rfl) (Nat.le_of_ble_eq_true rfl) rfl (Nat.le_of_ble_eq_true rfl) rfl (c6_add (n := n + 4 + 4) (by omega) e31) (fun s37 hq37 => ?_)
    obtain ⟨e37, g37, hF37⟩ := hq37
    refine wp_aload dX7_feed_40 rfl rfl ?_
    refine wn_getI dX7_feed_42 fRX7_225 o21 rfl rfl ?_
    refine wp_iret dX7_feed_45 rfl rfl ?_
    refine ⟨_, _, rfl, rfl, ?_, ⟨?_, fun q hq => ?_⟩, (hF25.tr hF31).tr hF37⟩
    · rw [e37]; exact (if_pos hn84).symm
    · rw [e37, show fdN n = n + 12 from if_pos hn84]
    · rw [g37, g31, g25, show fdF tp a b c n = fdT tp a b c n 12 from if_pos hn84]
      exact fd_cl (h.2 q hq) hq hn84
  · refine wp_ldc dX7_feed_19 kRX7_76 rfl ?_
    refine wp_iret dX7_feed_21 rfl rfl ?_
    have hn84 : ¬ n ≤ 84 := mt (nI_leI (b := 84) (by omega) (by decide)).mpr h16
    refine ⟨_, _, rfl, rfl, (if_neg hn84).symm, ?_, FQ.rf⟩
    rw [show fdF tp a b c n = tp from if_neg hn84, show fdN n = n from if_neg hn84]
    exact h
def trA (n : Nat) (x : Int32) : Int32 := if 0 ≤ x ∧ x ≤ nI n then x else -1000000001
def trN (n : Nat) (x : Int32) : Nat := if 0 ≤ x ∧ x ≤ nI n then x.toNatClampNeg else n
theorem c8_trim {s : Sn} {n : Nat} {x : Int32} (hn : n ≤ 96) (h6 : s.1 (40, 0, 0) 6 = nI n) : Ca (d + 1) MX8_trim [vR 40 0 0, vI x] (hN s) (Pv fun z t => z = trA n x ∧ t.1 (40, 0, 0) = upd (s.1 (40, 0, 0)) 6 (nI (trN n x)) ∧ Fr [(40, 0, 0)] s t) := by
  change Wp _ _ 0 [some _, some _] [] _ _
  refine wp_iload_n dX8_trim_0 rfl rfl ?_
  refine wp_iconst (v := 0) dX8_trim_1 (by decide) rfl ?_
  refine wp_aload_n dX8_trim_2 rfl rfl ?_
  refine wn_getI dX8_trim_3 fRX8_176 o40 rfl rfl ?_
  refine wn_callS3d dX8_trim_6 rRX8_75 (Nat.le_of_ble_eq_true rfl) rfl rfl rfl (Nat.le_of_ble_eq_true rfl) rfl (c8_in) ?_
  rw [h6]
  refine wp_if_ne_b (t := 15) dX8_trim_9 rfl rfl (fun h9 => ?_) (fun h9 => ?_)
  · refine wp_aload_n dX8_trim_15 rfl rfl ?_
    refine wp_iload_n dX8_trim_16 rfl rfl ?_
    refine wn_putI dX8_trim_17 fRX8_176 o40 rfl rfl rfl ?_
    refine wp_iload_n dX8_trim_20 rfl rfl ?_
    refine wp_iret dX8_trim_21 rfl rfl ?_
    obtain ⟨k, hk, rfl⟩ := nat60 (by omega) h9
    refine ⟨_, _, rfl, rfl, (if_pos h9).symm, ?_, Fr.rf.pt (by decide)⟩
    rw [sI_row, show trN n (nI k) = k from (if_pos h9).trans (nI_clamp (by omega))]
  · refine wp_ldc dX8_trim_12 kRX8_83 rfl ?_
    refine wp_iret dX8_trim_14 rfl rfl ?_
    refine ⟨_, _, rfl, rfl, (if_neg h9).symm, ?_, Fr.rf⟩
    rw [show trN n x = n from if_neg h9, ← h6, upd_self2]
theorem c7_trim {s : Sn} {tp : Fl} {n : Nat} {x : Int32} (hn : n ≤ 96) (h : TP s tp n) : Ca (d + 1) MX7_trim [vR 10 0 0, vI x] (hN s) (Pv fun z t => z = trA n x ∧ TP t tp (trN n x) ∧ FQ (fun r => r = (21, 0, 0) ∨ r = (22, 0, 0)) s t) := by
  change Wp _ _ 0 [some _, some _] [] _ _
  refine wp_iload_n dX7_trim_0 rfl rfl ?_
  refine wp_iconst (v := 0) dX7_trim_1 (by decide) rfl ?_
  refine wp_aload_n dX7_trim_2 rfl rfl ?_
  refine wn_getR dX7_trim_3 fRX7_28 o10 rfl rfl rfl ?_
  refine wn_getR dX7_trim_6 fRX7_221 o20 rfl rfl rfl ?_
  refine wn_getI dX7_trim_9 fRX7_225 o21 rfl rfl ?_
  refine wn_callS3d dX7_trim_12 rRX7_128 (Nat.le_of_ble_eq_true rfl) rfl rfl rfl (Nat.le_of_ble_eq_true rfl) rfl (c7_within) ?_
  rw [h.1]
  refine wp_if_ne_b (t := 21) dX7_trim_15 rfl rfl (fun h15 => ?_) (fun h15 => ?_)
  · refine wp_aload_n dX7_trim_21 rfl rfl ?_
    refine wn_getR dX7_trim_22 fRX7_28 o10 rfl rfl rfl ?_
    refine wn_getR dX7_trim_25 fRX7_221 o20 rfl rfl rfl ?_
    refine wp_iload_n dX7_trim_28 rfl rfl ?_
    refine wn_putI dX7_trim_29 fRX7_225 o21 rfl rfl rfl ?_
    refine wp_iload_n dX7_trim_32 rfl rfl ?_
    refine wp_iret dX7_trim_33 rfl rfl ?_
    obtain ⟨k, hk, rfl⟩ := nat60 (by omega) h15
    refine ⟨_, _, rfl, rfl, (if_pos h15).symm, ⟨?_, fun q hq => ?_⟩, FQ.rf.pt (Or.inl rfl)⟩
    · rw [sI_row, upd_eq, show trN n (nI k) = k from (if_pos h15).trans (nI_clamp (by omega))]
    · rw [sI_nr (by decide)]; exact h.2 q hq
  · refine wp_ldc dX7_trim_18 kRX7_68 rfl ?_
    refine wp_iret dX7_trim_20 rfl rfl ?_
    refine ⟨_, _, rfl, rfl, (if_neg h15).symm, ?_, FQ.rf⟩
    rw [show trN n x = n from if_neg h15]
    exact h
end
