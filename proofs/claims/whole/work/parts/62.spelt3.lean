/-! THE PURE PART, 43: the class spells -/
section
variable {d i : Nat}
def ush (x y : Int32) : Int32 := (x.toUInt32 >>> (y.toUInt32 &&& Int32.toUInt32 31)).toInt32
def bc1 (x : Int32) : Int32 := x - (ush x 1 &&& 1431655765)
def bc2 (x : Int32) : Int32 := (x &&& 858993459) + (ush x 2 &&& 858993459)
def bc3 (x : Int32) : Int32 := (x + ush x 4) &&& 252645135
def bc4 (x : Int32) : Int32 := x + ush x 8
def bc5 (x : Int32) : Int32 := x + ush x 16
def bcX (x : Int32) : Int32 := bc5 (bc4 (bc3 (bc2 (bc1 x)))) &&& 63
theorem bcT : (List.range 64).all (fun a => (List.range 64).all (fun b => decide (bcX (nI (64 * a + b)) = nI (ctr (fun g => Nat.testBit (64 * a + b) g) 12)))) = true := by decide +kernel
theorem bc_v {m : Nat} (hm : m < 4096) : bcX (nI m) = nI (ctr (fun g => Nat.testBit m g) 12) := by
  have h := List.all_eq_true.mp (List.all_eq_true.mp bcT (m / 64) (List.mem_range.mpr (by omega))) (m % 64) (List.mem_range.mpr (by omega))
  have e : 64 * (m / 64) + m % 64 = m := by omega
  rw [e] at h
  exact of_decide_eq_true h
theorem c6_bitCount {s : Sn} {m : Nat} (hm : m < 4096) : Ca (d + 0) MJ6_bitCount_0f7a4 [vI (nI m)] (hN s) (Pd (nI (ctr (fun g => Nat.testBit m g) 12)) s) := by
  change Wp _ _ 0 [some _] [] _ _
  refine wp_iload_n dJ6_bitCount_0f7a4_0 rfl rfl ?_
  refine wp_iload_n dJ6_bitCount_0f7a4_1 rfl rfl ?_
  refine wp_iconst (v := 1) dJ6_bitCount_0f7a4_2 (by decide) rfl ?_
  refine wp_iushr dJ6_bitCount_0f7a4_3 rfl ?_
  refine wp_ldcw dJ6_bitCount_0f7a4_4 kRJ6_265 rfl ?_
  refine wp_iand dJ6_bitCount_0f7a4_7 rfl ?_
  refine wp_isub dJ6_bitCount_0f7a4_8 rfl ?_
  refine wp_istore_n (l' := [some _]) dJ6_bitCount_0f7a4_9 rfl rfl ?_
  refine wp_iload_n dJ6_bitCount_0f7a4_10 rfl rfl ?_
  refine wp_ldcw dJ6_bitCount_0f7a4_11 kRJ6_266 rfl ?_
  refine wp_iand dJ6_bitCount_0f7a4_14 rfl ?_
  refine wp_iload_n dJ6_bitCount_0f7a4_15 rfl rfl ?_
  refine wp_iconst (v := 2) dJ6_bitCount_0f7a4_16 (by decide) rfl ?_
  refine wp_iushr dJ6_bitCount_0f7a4_17 rfl ?_
  refine wp_ldcw dJ6_bitCount_0f7a4_18 kRJ6_266 rfl ?_
  refine wp_iand dJ6_bitCount_0f7a4_21 rfl ?_
  refine wp_iadd dJ6_bitCount_0f7a4_22 rfl ?_
  refine wp_istore_n (l' := [some _]) dJ6_bitCount_0f7a4_23 rfl rfl ?_
  refine wp_iload_n dJ6_bitCount_0f7a4_24 rfl rfl ?_
  refine wp_iload_n dJ6_bitCount_0f7a4_25 rfl rfl ?_
  refine wp_iconst (v := 4) dJ6_bitCount_0f7a4_26 (by decide) rfl ?_
  refine wp_iushr dJ6_bitCount_0f7a4_27 rfl ?_
  refine wp_iadd dJ6_bitCount_0f7a4_28 rfl ?_
  refine wp_ldcw dJ6_bitCount_0f7a4_29 kRJ6_267 rfl ?_
  refine wp_iand dJ6_bitCount_0f7a4_32 rfl ?_
  refine wp_istore_n (l' := [some _]) dJ6_bitCount_0f7a4_33 rfl rfl ?_
  refine wp_iload_n dJ6_bitCount_0f7a4_34 rfl rfl ?_
  refine wp_iload_n dJ6_bitCount_0f7a4_35 rfl rfl ?_
  refine wp_bipush (v := 8) dJ6_bitCount_0f7a4_36 (by decide) rfl ?_
  refine wp_iushr dJ6_bitCount_0f7a4_38 rfl ?_
  refine wp_iadd dJ6_bitCount_0f7a4_39 rfl ?_
  refine wp_istore_n (l' := [some _]) dJ6_bitCount_0f7a4_40 rfl rfl ?_
  refine wp_iload_n dJ6_bitCount_0f7a4_41 rfl rfl ?_
  refine wp_iload_n dJ6_bitCount_0f7a4_42 rfl rfl ?_
  refine wp_bipush (v := 16) dJ6_bitCount_0f7a4_43 (by decide) rfl ?_
  refine wp_iushr dJ6_bitCount_0f7a4_45 rfl ?_
  refine wp_iadd dJ6_bitCount_0f7a4_46 rfl ?_
  refine wp_istore_n (l' := [some _]) dJ6_bitCount_0f7a4_47 rfl rfl ?_
  refine wp_iload_n dJ6_bitCount_0f7a4_48 rfl rfl ?_
  refine wp_bipush (v := 63) dJ6_bitCount_0f7a4_49 (by decide) rfl ?_
  refine wp_iand dJ6_bitCount_0f7a4_51 rfl ?_
  refine wp_iret dJ6_bitCount_0f7a4_52 rfl rfl ?_
  rw [← bc_v hm]
  exact Pd.mk
theorem nI_and (a b : Nat) : nI a &&& nI b = nI (a &&& b) := by
  apply Int32.toBitVec_inj.mp
  show BitVec.ofNat 32 a &&& BitVec.ofNat 32 b = BitVec.ofNat 32 (a &&& b)
  exact (BitVec.ofNat_and).symm
theorem nI_or (a b : Nat) : nI a ||| nI b = nI (a ||| b) := by
  apply Int32.toBitVec_inj.mp
  show BitVec.ofNat 32 a ||| BitVec.ofNat 32 b = BitVec.ofNat 32 (a ||| b)
  exact (BitVec.ofNat_or).symm
theorem bit_v : ∀ g, g < 12 → (1 : Int32) <<< (nI g &&& 31) = nI (2 ^ g) := by decide
theorem bitT : (List.range 12).all (fun g => (List.range 64).all (fun a => (List.range 64).all (fun b => decide (((64 * a + b) &&& 2 ^ g = 0) ↔ Nat.testBit (64 * a + b) g = false)))) = true := by decide +kernel
theorem bit_0 {m g : Nat} (hm : m < 4096) (hg : g < 12) : m &&& 2 ^ g = 0 ↔ Nat.testBit m g = false := by
  have h := List.all_eq_true.mp (List.all_eq_true.mp (List.all_eq_true.mp bitT g (List.mem_range.mpr hg)) (m / 64) (List.mem_range.mpr (by omega))) (m % 64) (List.mem_range.mpr (by omega))
  have e : 64 * (m / 64) + m % 64 = m := by omega
  rw [e] at h
  exact of_decide_eq_true h
theorem bit_f {m g : Nat} (hm : m < 4096) (hg : g < 12) (h : nI m &&& 1 <<< (nI g &&& 31) = 0) : Nat.testBit m g = false := by
  rw [bit_v g hg, nI_and] at h
  refine (bit_0 hm hg).mp ?_
  exact (nI_eq (b := 0) (Nat.lt_of_le_of_lt Nat.and_le_left (by omega)) (by decide)).mp h
theorem bit_t {m g : Nat} (hm : m < 4096) (hg : g < 12) (h : ¬ nI m &&& 1 <<< (nI g &&& 31) = 0) : Nat.testBit m g = true := by
  cases e : Nat.testBit m g
  · exact absurd (by rw [bit_v g hg, nI_and, (bit_0 hm hg).mpr e]; rfl) h
  · rfl
theorem ctr_mono {p q : Nat → Bool} : ∀ {n : Nat}, (∀ k, k < n → p k = true → q k = true) → ctr p n ≤ ctr q n
  | 0, _ => Nat.le_refl _
  | n + 1, h => by
    have h1 := ctr_mono (n := n) (fun k hk => h k (by omega))
    show ctr p n + (if p n = true then 1 else 0) ≤ ctr q n + (if q n = true then 1 else 0)
    by_cases e : p n = true
    · rw [if_pos e, if_pos (h n (by omega) e)]; omega
    · rw [if_neg e]; omega
theorem ctr_ff : ∀ n, ctr (fun _ => false) n = 0
  | 0 => rfl
  | n + 1 => by show ctr (fun _ => false) n + (if false = true then 1 else 0) = 0; rw [ctr_ff n]; rfl
theorem ctr_top {p : Nat → Bool} {c : Nat} (h : ∀ g, c ≤ g → p g = false) : ∀ {N : Nat}, c ≤ N → ctr p N = ctr p c
  | 0, hN => by rw [show c = 0 by omega]
  | N + 1, hN => by
    by_cases e : c = N + 1
    · rw [e]
    · show ctr p N + (if p N = true then 1 else 0) = ctr p c
      rw [if_neg (by rw [h N (by omega)]; decide), ctr_top h (N := N) (by omega), Nat.add_zero]
theorem spl_0 {f : Fl} {c : Nat} : ∀ X, spl f 0 c X = 0
  | 0 => rfl
  | X + 1 => by show spl f 0 c X + min _ 0 = 0; rw [spl_0 X, Nat.min_zero]
theorem spl_st {f : Fl} {c k x : Nat} (hx : x < 26) (hl : f (9 + k) = nI x) : ∀ X, X ≤ 26 → spl f (k + 1) c X + (if x < X then min (ctr (lpB f x) c) (ctr (lpA f x) k) else 0) = spl f k c X + (if x < X then min (ctr (lpB f x) c) (ctr (lpA f x) k + 1) else 0)
  | 0, _ => rfl
  | X + 1, hX => by
    have h1 := spl_st (c := c) hx hl X (by omega)
    have e1 : ctr (lpA f X) (k + 1) = ctr (lpA f X) k + (if x = X then 1 else 0) := by
      show ctr (lpA f X) k + (if lpA f X k = true then 1 else 0) = _
      congr 1
      by_cases e : x = X
      · rw [if_pos e, if_pos (show lpA f X k = true from decide_eq_true (by rw [hl, e]))]
      · rw [if_neg e, if_neg (show ¬ lpA f X k = true from fun z => e ((nI_eq (by omega) (by omega)).mp (hl.symm.trans (of_decide_eq_true z))))]
    show spl f (k + 1) c X + min (ctr (lpB f X) c) (ctr (lpA f X) (k + 1)) + _ = spl f k c X + min (ctr (lpB f X) c) (ctr (lpA f X) k) + _
    rw [e1]
    by_cases e : x = X
    · subst e
      rw [if_neg (by omega), if_neg (by omega)] at h1
      rw [if_pos rfl, if_pos (by omega), if_pos (by omega)]
      omega
    · rw [if_neg e, Nat.add_zero]
      by_cases e2 : x < X
      · rw [if_pos e2, if_pos e2] at h1
        rw [if_pos (by omega), if_pos (by omega)]
        omega
      · rw [if_neg e2, if_neg e2] at h1
        rw [if_neg (by omega), if_neg (by omega)]
        omega
abbrev ut (m : Nat) : Nat → Bool := fun g => Nat.testBit m g
abbrev ub (f : Fl) (m x : Nat) : Nat → Bool := fun g => Nat.testBit m g && lpB f x g
def SI (f : Fl) (c k m : Nat) : Prop := m < 2 ^ c ∧ ctr (ut m) c = spl f k c 26 ∧ ∀ x, x < 26 → ctr (ub f m x) c = min (ctr (lpB f x) c) (ctr (lpA f x) k)
theorem SI.z {f : Fl} {c : Nat} : SI f c 0 0 := by
  have e : ∀ g, Nat.testBit 0 g = false := Nat.zero_testBit
  refine ⟨Nat.two_pow_pos c, ?_, fun x _ => ?_⟩
  · rw [spl_0, ctr_cong (q := fun _ => false) (fun g _ => e g)]; exact ctr_ff c
  · rw [ctr_cong (q := fun _ => false) (fun g _ => by show (Nat.testBit 0 g && _) = false; rw [e g]; rfl), ctr_ff c]
    exact (Nat.min_zero _).symm
/-- what is found: nothing more, or a bit -/
def UW (f : Fl) (c m x b : Nat) : Prop := (b = 0 ∧ ∀ g, g < c → lpB f x g = true → Nat.testBit m g = true) ∨ ∃ g, g < c ∧ b = 2 ^ g ∧ lpB f x g = true ∧ Nat.testBit m g = false
theorem SI.st {f : Fl} {c k m x b : Nat} (h : SI f c k m) (hx : x < 26) (hl : f (9 + k) = nI x) (hb : UW f c m x b) : SI f c (k + 1) (m ||| b) := by
  obtain ⟨hm, ht, hp⟩ := h
  have hs := spl_st (c := c) hx hl 26 (Nat.le_refl _)
  rw [if_pos hx, if_pos hx] at hs
  have hpx := hp x hx
  have e1 : ∀ y, y < 26 → ctr (lpA f y) (k + 1) = ctr (lpA f y) k + (if y = x then 1 else 0) := fun y hy => by
    show ctr (lpA f y) k + (if lpA f y k = true then 1 else 0) = _
    congr 1
    by_cases e : y = x
    · rw [if_pos e, if_pos (show lpA f y k = true from decide_eq_true (by rw [hl, e]))]
    · rw [if_neg e, if_neg (show ¬ lpA f y k = true from fun z => e ((nI_eq (by omega) (by omega)).mp ((of_decide_eq_true z).symm.trans hl)))]
  rcases hb with ⟨rfl, hn⟩ | ⟨g, hg, rfl, hg1, hg2⟩
  · have hall : ctr (ub f m x) c = ctr (lpB f x) c := ctr_cong (fun g hg => by
      show (Nat.testBit m g && lpB f x g) = lpB f x g
      cases e : lpB f x g
      · exact Bool.and_false _
      · rw [hn g hg e]; rfl)
    rw [Nat.or_zero]
    refine ⟨hm, by rw [ht]; omega, fun y hy => ?_⟩
    rw [hp y hy, e1 y hy]
    by_cases e : y = x
    · subst e; rw [if_pos rfl]; omega
    · rw [if_neg e]; rfl
  · have hor : ∀ j, Nat.testBit (m ||| 2 ^ g) j = (Nat.testBit m j || decide (g = j)) := fun j => by rw [Nat.testBit_or, Nat.testBit_two_pow]
    have hj : ∀ j, j ≠ g → Nat.testBit (m ||| 2 ^ g) j = Nat.testBit m j := fun j e => by rw [hor j, decide_eq_false (Ne.symm e), Bool.or_false]
    have hgt : Nat.testBit (m ||| 2 ^ g) g = true := by rw [hor g, decide_eq_true rfl, Bool.or_true]
    have u1 := ctr_upd (p := ut m) (q := ut (m ||| 2 ^ g)) (j := g) (fun j e => hj j e) hg
    rw [if_neg (show ¬ ut m g = true by show ¬ Nat.testBit m g = true; rw [hg2]; decide), if_pos (show ut (m ||| 2 ^ g) g = true from hgt)] at u1
    have u2 := ctr_upd (p := ub f m x) (q := ub f (m ||| 2 ^ g) x) (j := g) (fun j e => by show (Nat.testBit (m ||| 2 ^ g) j && _) = _; rw [hj j e]) hg
    rw [if_neg (show ¬ ub f m x g = true by show ¬ (Nat.testBit m g && lpB f x g) = true; rw [hg2, Bool.false_and]; decide), if_pos (show ub f (m ||| 2 ^ g) x g = true by show (Nat.testBit (m ||| 2 ^ g) g && lpB f x g) = true; rw [hgt, hg1]; rfl)] at u2
    have u3 : ctr (ub f (m ||| 2 ^ g) x) c ≤ ctr (lpB f x) c := ctr_mono (fun j _ e => by
      have e' : (Nat.testBit (m ||| 2 ^ g) j && lpB f x j) = true := e
      cases e2 : lpB f x j
      · rw [e2, Bool.and_false] at e'; exact absurd e' (by decide)
      · rfl)
    refine ⟨Nat.or_lt_two_pow hm (Nat.pow_lt_pow_right (by decide) hg), by omega, fun y hy => ?_⟩
    by_cases e : y = x
    · subst e
      rw [e1 y hy, if_pos rfl]
      omega
    · rw [e1 y hy, if_neg e, Nat.add_zero, ← hp y hy]
      refine ctr_cong (fun j _ => ?_)
      show (Nat.testBit (m ||| 2 ^ g) j && lpB f y j) = (Nat.testBit m j && lpB f y j)
      by_cases e2 : j = g
      · subst e2
        have hne : lpB f y j = false := by
          cases e3 : lpB f y j
          · rfl
          · exact absurd ((nI_eq (by omega) (by omega)).mp ((of_decide_eq_true e3).2.symm.trans (of_decide_eq_true hg1).2)) e
        rw [hne, Bool.and_false, Bool.and_false]
      · rw [hj j e2]
theorem l3_uw {s : Sn} {f : Fl} {c m x : Nat} (hi : i < 4) (hR : RC s i f) (h1 : f 1 = nI c) (hc : c ≤ 12) (hm : m < 4096) : ∀ k, k ≤ c → (∀ g, g < k → lpB f x g = true → Nat.testBit m g = true) → ∀ c4, Wp (d + 1) MX3_unusedWith 2 [some (vR 11 i 0), some (vI (nI x)), some (vI (nI m)), some (vI (nI k)), c4] [] (hN s) (Pv fun y t => t = s ∧ ∃ b, y = nI b ∧ UW f c m x b) := by
  have hcn : cn f = c := by unfold cn; rw [h1, nI_clamp (by omega)]
  have hlc : s.1 (11, i, 0) 6 = nI c := (hR.sc 1 (by decide)).trans h1
  refine ind_up (fun k hk ih hb c4 => ?_)
  refine wp_iload_n dX3_unusedWith_2 rfl rfl ?_
  refine wp_aload_n dX3_unusedWith_3 rfl rfl ?_
  refine wn_getI dX3_unusedWith_4 fRX3_36 (o11 hi) rfl rfl ?_
  rw [hlc]
  refine wp_icmp_ge (t := 58) dX3_unusedWith_7 rfl rfl (fun h7 => ?_) (fun h7 => ?_)
  · refine wp_iconst (v := 0) dX3_unusedWith_58 (by decide) rfl ?_
    refine wp_iret dX3_unusedWith_59 rfl rfl ?_
    have hkc : k = c := by have := (nI_leI (by omega) (by omega)).mp h7; omega
    subst hkc
    exact ⟨_, _, rfl, rfl, rfl, 0, rfl, Or.inl ⟨rfl, hb⟩⟩
  · have hl : k < c := by have := mt (nI_leI (by omega) (by omega)).mpr h7; omega
    have hk12 : k < 12 := by omega
    have hE3 : s.1 (12, i, k) 3 = f (45 + 5 * k + 3) := hR.lg (by omega) hk12 (by decide)
    have hE1 : s.1 (12, i, k) 1 = f (45 + 5 * k + 1) := hR.lg (by omega) hk12 (by decide)
    refine wp_iconst (v := 1) dX3_unusedWith_10 (by decide) rfl ?_
    refine wp_iload_n dX3_unusedWith_11 rfl rfl ?_
    refine wp_ishl dX3_unusedWith_12 rfl ?_
    refine wp_istore (l' := [_, _, _, _, some _]) dX3_unusedWith_13 rfl rfl ?_
    refine wp_aload_n dX3_unusedWith_15 rfl rfl ?_
    refine wn_getR dX3_unusedWith_16 fRX3_11 (o11 hi) rfl rfl rfl ?_
    refine wp_iload_n dX3_unusedWith_19 rfl rfl ?_
    refine wn_aald13 dX3_unusedWith_20 hi (nIx rfl (by omega)) hk12 rfl ?_
    refine wn_getI dX3_unusedWith_21 fRX3_91 (o12 hi hk12) rfl rfl ?_
    refine wp_bipush (v := 12) dX3_unusedWith_24 (by decide) rfl ?_
    refine wp_icmp_ne (t := 52) dX3_unusedWith_26 rfl rfl (fun h26 => ?_) (fun h26 => ?_)
    · refine wp_iinc (l' := [_, _, _, some _, _]) (v := 1) dX3_unusedWith_52 rfl (by decide) rfl rfl ?_
      refine wp_goto (t := 2) dX3_unusedWith_55 rfl ?_
      rw [nI_1]
      exact ih hl (fun g hg hB => by
        by_cases e : g = k
        · subst e; exact absurd ((hE3.symm ▸ (of_decide_eq_true hB).1 : s.1 (12, i, g) 3 = 12)) h26
        · exact hb g (by omega) hB) _
    · refine wp_aload_n dX3_unusedWith_29 rfl rfl ?_
      refine wn_getR dX3_unusedWith_30 fRX3_11 (o11 hi) rfl rfl rfl ?_
      refine wp_iload_n dX3_unusedWith_33 rfl rfl ?_
      refine wn_aald13 dX3_unusedWith_34 hi (nIx rfl (by omega)) hk12 rfl ?_
      refine wn_getI dX3_unusedWith_35 fRX3_85 (o12 hi hk12) rfl rfl ?_
      refine wp_iload_n dX3_unusedWith_38 rfl rfl ?_
      refine wp_icmp_ne (t := 52) dX3_unusedWith_39 rfl rfl (fun h39 => ?_) (fun h39 => ?_)
      · refine wp_iinc (l' := [_, _, _, some _, _]) (v := 1) dX3_unusedWith_52 rfl (by decide) rfl rfl ?_
        refine wp_goto (t := 2) dX3_unusedWith_55 rfl ?_
        rw [nI_1]
        exact ih hl (fun g hg hB => by
          by_cases e : g = k
          · subst e; exact absurd ((hE1.symm ▸ (of_decide_eq_true hB).2 : s.1 (12, i, g) 1 = nI x)) h39
          · exact hb g (by omega) hB) _
      · refine wp_iload_n dX3_unusedWith_42 rfl rfl ?_
        refine wp_iload dX3_unusedWith_43 rfl rfl ?_
        refine wp_iand dX3_unusedWith_45 rfl ?_
        refine wp_if_ne (t := 52) dX3_unusedWith_46 rfl rfl (fun h46 => ?_) (fun h46 => ?_)
        · refine wp_iinc (l' := [_, _, _, some _, _]) (v := 1) dX3_unusedWith_52 rfl (by decide) rfl rfl ?_
          refine wp_goto (t := 2) dX3_unusedWith_55 rfl ?_
          rw [nI_1]
          exact ih hl (fun g hg hB => by
            by_cases e : g = k
            · subst e; exact bit_t hm hk12 h46
            · exact hb g (by omega) hB) _
        · refine wp_iload dX3_unusedWith_49 rfl rfl ?_
          refine wp_iret dX3_unusedWith_51 rfl rfl ?_
          rw [bit_v k hk12]
          refine ⟨_, _, rfl, rfl, rfl, _, rfl, Or.inr ⟨k, hl, rfl, decide_eq_true ⟨hE3.symm.trans (h26), hE1.symm.trans (h39)⟩, ?_⟩⟩
          exact bit_f hm hk12 h46
theorem c3_unusedWith {s : Sn} {f : Fl} {c m x : Nat} (hi : i < 4) (hR : RC s i f) (h1 : f 1 = nI c) (hc : c ≤ 12) (hm : m < 4096) : Ca (d + 1) MX3_unusedWith [vR 11 i 0, vI (nI x), vI (nI m)] (hN s) (Pv fun y t => t = s ∧ ∃ b, y = nI b ∧ UW f c m x b) := by
  change Wp _ _ 0 [some _, some _, some _, none, none] [] _ _
  refine wp_iconst (v := 0) dX3_unusedWith_0 (by decide) rfl ?_
  refine wp_istore_n (l' := [_, _, _, some _, _]) dX3_unusedWith_1 rfl rfl ?_
  exact l3_uw hi hR h1 hc hm 0 (Nat.zero_le _) (fun g hg => absurd hg (Nat.not_lt_zero g)) _
theorem l3_spelt {s : Sn} {f : Fl} {c n : Nat} (hi : i < 4) (hR : RC s i f) (h1 : f 1 = nI c) (hc : c ≤ 12) (h7 : f 7 = nI n) (hn : n ≤ 12) (hL : ∀ k, k < n → ∃ x, x < 26 ∧ f (9 + k) = nI x) : ∀ k, k ≤ n → ∀ m, SI f c k m → Wp (d + 2) MX3_spelt 4 [some (vR 11 i 0), some (vI (nI m)), some (vI (nI k))] [] (hN s) (Pd (nI (spl f n c 26)) s) := by
  have hc2 : 2 ^ c ≤ 4096 := Nat.pow_le_pow_right (n := 2) (by decide) hc
  have hln : s.1 (11, i, 0) 7 = nI n := (hR.sc 7 (by decide)).trans h7
  refine ind_up (fun k hk ih m hm => ?_)
  have hm4 : m < 4096 := Nat.lt_of_lt_of_le hm.1 hc2
  refine wp_iload_n dX3_spelt_4 rfl rfl ?_
  refine wp_aload_n dX3_spelt_5 rfl rfl ?_
  refine wn_getI dX3_spelt_6 fRX3_40 (o11 hi) rfl rfl ?_
  rw [hln]
  refine wp_icmp_ge (t := 32) dX3_spelt_9 rfl rfl (fun h9 => ?_) (fun h9 => ?_)
  · have hkn : k = n := by have := (nI_leI (by omega) (by omega)).mp h9; omega
    subst hkn
    refine wp_iload_n dX3_spelt_32 rfl rfl ?_
    refine wn_callS1d dX3_spelt_33 rRX3_178 (Nat.le_of_ble_eq_true rfl) rfl (Nat.le_of_ble_eq_true rfl) rfl (c6_bitCount hm4) ?_
    refine wp_iret dX3_spelt_36 rfl rfl ?_
    have e : ctr (fun g => Nat.testBit m g) 12 = spl f k c 26 := by
      rw [← hm.2.1]
      exact ctr_top (fun g hg => Nat.testBit_lt_two_pow (Nat.lt_of_lt_of_le hm.1 (Nat.pow_le_pow_right (by decide) hg))) hc
    rw [e]
    exact Pd.mk
  · have hl : k < n := by have := mt (nI_leI (by omega) (by omega)).mpr h9; omega
    obtain ⟨x, hx26, hx⟩ := hL k hl
    have hwd : s.1 (17, i, 0) k = nI x := (hR.wd (by omega)).trans hx
    refine wp_iload_n dX3_spelt_12 rfl rfl ?_
    refine wp_aload_n dX3_spelt_13 rfl rfl ?_
    refine wp_aload_n dX3_spelt_14 rfl rfl ?_
    refine wn_getR dX3_spelt_15 fRX3_27 (o11 hi) rfl rfl rfl ?_
    refine wp_iload_n dX3_spelt_18 rfl rfl ?_
    refine wn_iald dX3_spelt_19 (o17 hi) rfl (nIx rfl (by omega)) (show k < 12 by omega) rfl ?_
    rw [hwd]
    refine wp_iload_n dX3_spelt_20 rfl rfl ?_
    refine wn_callV2i dX3_spelt_21 rRX3_175 (rcv_of (o11 hi) rfl) (Nat.le_of_ble_eq_true rfl) rfl rfl (Nat.le_of_ble_eq_true rfl) rfl (c3_unusedWith hi hR h1 hc hm4) (fun x21 s21 hq21 => ?_)
    obtain ⟨rfl, b, hy, hb⟩ := hq21
    refine wp_ior dX3_spelt_24 rfl ?_
    refine wp_istore_n (l' := [_, some _, _]) dX3_spelt_25 rfl rfl ?_
    refine wp_iinc (l' := [_, _, some _]) (v := 1) dX3_spelt_26 rfl (by decide) rfl rfl ?_
    refine wp_goto (t := 4) dX3_spelt_29 rfl ?_
    rw [hy, nI_or, nI_1]
    exact ih hl _ (hm.st hx26 hx hb)
theorem c3_spelt {s : Sn} {f : Fl} {c n : Nat} (hi : i < 4) (hR : RC s i f) (h1 : f 1 = nI c) (hc : c ≤ 12) (h7 : f 7 = nI n) (hn : n ≤ 12) (hL : ∀ k, k < n → ∃ x, x < 26 ∧ f (9 + k) = nI x) : Ca (d + 2) MX3_spelt [vR 11 i 0] (hN s) (Pd (nI (spl f n c 26)) s) := by
  change Wp _ _ 0 [some _, none, none] [] _ _
  refine wp_iconst (v := 0) dX3_spelt_0 (by decide) rfl ?_
  refine wp_istore_n (l' := [_, some _, _]) dX3_spelt_1 rfl rfl ?_
  refine wp_iconst (v := 0) dX3_spelt_2 (by decide) rfl ?_
  refine wp_istore_n (l' := [_, _, some _]) dX3_spelt_3 rfl rfl ?_
  exact l3_spelt hi hR h1 hc h7 hn hL 0 (Nat.zero_le _) 0 SI.z
theorem RV.fq {s t : Sn} {X : Rf → Prop} {f : Fl} {c : Nat} (h : RV s i f c) (hF : FQ X s t) (hX : ∀ r, X r → ¬ (r.2.1 = i ∧ (r.1 = 11 ∨ r.1 = 17 ∨ r.1 = 14 ∨ r.1 = 15 ∨ r.1 = 12))) : RV t i f c :=
  ⟨h.1.cg (fun r h1 h2 => hF.1 r (fun hx => hX r hx ⟨h1, h2⟩)) (fun _ _ => rfl), by rw [hF.1 (11, i, 0) (fun hx => hX _ hx ⟨rfl, Or.inl rfl⟩)]; exact h.2.1, h.2.2⟩
theorem c7_river {s : Sn} {f : Fl} {c n : Nat} {x : Int32} (hV : RV s 0 f c) (hr : ∀ g, g < 12 → ∃ r, r ≤ 13 ∧ f (45 + 5 * g + 3) = nI r) (h7 : f 7 = nI n) (hn : n ≤ 12) (hL : ∀ k, k < n → ∃ x, x < 26 ∧ f (9 + k) = nI x) : Ca (d + 4) MX7_river [vR 10 0 0, vI x] (hN s) (Pv fun y t => y = rvA f n c x ∧ RV t 0 f c ∧ FQ (XR 0) s t) := by
  change Wp _ _ 0 [some _, some _] [] _ _
  refine wp_iload_n dX7_river_0 rfl rfl ?_
  refine wp_tsw5 (c0 := 0) (c1 := 1) (c2 := 2) (c3 := 3) (c4 := 4) (t0 := 36) (t1 := 44) (t2 := 52) (t3 := 60) (t4 := 68) (t := 76) dX7_river_1 rfl (by decide) (by decide) (by decide) (by decide) (by decide) rfl rfl rfl rfl rfl rfl rfl rfl rfl rfl rfl (fun k1 => ?_) (fun k1 => ?_) (fun k1 => ?_) (fun k1 => ?_) (fun k1 => ?_) (fun n1_0 n1_1 n1_2 n1_3 n1_4 => ?_)
  · refine wp_aload_n dX7_river_36 rfl rfl ?_
    refine wn_getR dX7_river_37 fRX7_10 o10 rfl rfl rfl ?_
    refine wn_callV0d dX7_river_40 rRX7_174 (rcv_of (o11 (by decide)) rfl) (Nat.le_of_ble_eq_true rfl)  (Nat.le_of_ble_eq_true rfl) rfl (c3_spelt (by decide) hV.1 hV.2.2.1 hV.2.2.2 h7 hn hL) ?_
    refine wp_iret dX7_river_43 rfl rfl ?_
    rw [k1, rvA_0]
    exact ⟨_, _, rfl, rfl, rfl, hV, FQ.rf⟩
  · refine wp_aload_n dX7_river_44 rfl rfl ?_
    refine wn_getR dX7_river_45 fRX7_10 o10 rfl rfl rfl ?_
    refine wn_callV0i dX7_river_48 rRX7_177 (rcv_of (o11 (by decide)) rfl) (Nat.le_of_ble_eq_true rfl)  (Nat.le_of_ble_eq_true rfl) rfl (c3_jammed (by decide) hV.1 hV.2.2.1 hV.2.2.2 hr) (fun x48 s48 hq48 => ?_)
    refine wp_iret dX7_river_51 rfl rfl ?_
    rw [k1, rvA_1]
    exact ⟨_, _, rfl, rfl, hq48.1, hV.fq hq48.2.2 (fun r h => by rw [h]; decide), hq48.2.2.wd (fun r h => Or.inr (by rw [h]; exact ⟨rfl, Or.inr (Or.inr rfl)⟩))⟩
  · refine wp_aload_n dX7_river_52 rfl rfl ?_
    refine wn_getR dX7_river_53 fRX7_10 o10 rfl rfl rfl ?_
    refine wn_getI dX7_river_56 fRX7_180 (o11 (by decide)) rfl rfl ?_
    refine wp_iret dX7_river_59 rfl rfl ?_
    rw [k1, rvA_2]
    exact ⟨_, _, rfl, rfl, hV.1.sc 6 (by decide), hV, FQ.rf⟩
  · refine wp_aload_n dX7_river_60 rfl rfl ?_
    refine wn_getR dX7_river_61 fRX7_10 o10 rfl rfl rfl ?_
    refine wn_getI dX7_river_64 fRX7_161 (o11 (by decide)) rfl rfl ?_
    refine wp_iret dX7_river_67 rfl rfl ?_
    rw [k1, rvA_3]
    exact ⟨_, _, rfl, rfl, hV.2.1, hV, FQ.rf⟩
  · refine wp_aload_n dX7_river_68 rfl rfl ?_
    refine wn_getR dX7_river_69 fRX7_10 o10 rfl rfl rfl ?_
    refine wn_callV0d dX7_river_72 rRX7_183 (rcv_of (o11 (by decide)) rfl) (Nat.le_of_ble_eq_true rfl)  (Nat.le_of_ble_eq_true rfl) rfl (c3_afloat (by decide) hV.1 hV.2.2.1 hV.2.2.2 hr) ?_
    refine wp_iret dX7_river_75 rfl rfl ?_
    rw [k1, rvA_4]
    exact ⟨_, _, rfl, rfl, rfl, hV, FQ.rf⟩
  · refine wp_ldc dX7_river_76 kRX7_68 rfl ?_
    refine wp_iret dX7_river_78 rfl rfl ?_
    rw [rvA_5 n1_0 n1_1 n1_2 n1_3 n1_4]
    exact ⟨_, _, rfl, rfl, rfl, hV, FQ.rf⟩
end
