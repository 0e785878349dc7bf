/-! THE PURE PART, 103: the objects as they are made; the law returns 1 -/
theorem f0_hi {xs : Nat → Int32} {k : Nat} (h : 33 ≤ k) : n0 xs (41, 0, 0) k = 0 := by
  show (if k = 0 then (1 : Int32) else if k = 3 then 3 else if 21 ≤ k ∧ k < 33 then 4 else 0) = 0
  rw [if_neg (by omega), if_neg (by omega), if_neg (by omega)]
theorem GF_of {f : Fl} (h1 : f 1 = 0) (h8 : f 8 = 0) (h7 : f 7 = 0) (h3 : ∃ a, a < 10 ∧ f 3 = nI a) (h4 : f 4 = 0) (hz : ∀ k, 33 ≤ k → f k = 0) : GF f 0 0 :=
  ⟨⟨⟨h1, by decide, h8, by decide, fun t ht => absurd ht (Nat.not_lt_zero t), fun g hg => ⟨0, by decide, hz _ (by omega)⟩⟩, fun g hg => ⟨0, by decide, hz _ (by omega)⟩, h3, ⟨0, by decide, h4⟩⟩, ⟨0, h7, by decide, fun k hk => absurd hk (Nat.not_lt_zero k)⟩, fun g hg => absurd hg (Nat.not_lt_zero g), ⟨fun g h hg => absurd hg (Nat.not_lt_zero g), fun g hg => absurd hg (Nat.not_lt_zero g)⟩, fun t ht => absurd ht (Nat.not_lt_zero t), fun q hq => hz q (by omega)⟩
theorem rc0 {xs : Nat → Int32} : ∀ k, k < 45 → n0 xs (rc 0 k).1 (rc 0 k).2 = n0 xs (41, 0, 0) k := by
  intro k hk
  match k, hk with
  | 0, _ => rfl
  | 1, _ => rfl
  | 2, _ => rfl
  | 3, _ => rfl
  | 4, _ => rfl
  | 5, _ => rfl
  | 6, _ => rfl
  | 7, _ => rfl
  | 8, _ => rfl
  | 9, _ => rfl
  | 10, _ => rfl
  | 11, _ => rfl
  | 12, _ => rfl
  | 13, _ => rfl
  | 14, _ => rfl
  | 15, _ => rfl
  | 16, _ => rfl
  | 17, _ => rfl
  | 18, _ => rfl
  | 19, _ => rfl
  | 20, _ => rfl
  | 21, _ => rfl
  | 22, _ => rfl
  | 23, _ => rfl
  | 24, _ => rfl
  | 25, _ => rfl
  | 26, _ => rfl
  | 27, _ => rfl
  | 28, _ => rfl
  | 29, _ => rfl
  | 30, _ => rfl
  | 31, _ => rfl
  | 32, _ => rfl
  | 33, _ => rfl
  | 34, _ => rfl
  | 35, _ => rfl
  | 36, _ => rfl
  | 37, _ => rfl
  | 38, _ => rfl
  | 39, _ => rfl
  | 40, _ => rfl
  | 41, _ => rfl
  | 42, _ => rfl
  | 43, _ => rfl
  | 44, _ => rfl
  | k + 45, hk => exact absurd hk (by omega)
theorem SB0 {L S : Nat} {xs : Nat → Int32} {u : Nat} {g : Fl} (h : ∀ k, k < slen.getD u 0 → (sbyt.getD u []).getD k 0 = g k) : SB (zs0 L xs S) u g := ⟨rfl, h⟩
theorem inv0 {L S : Nat} {xs : Nat → Int32} : INV (zs0 L xs S) := by
  refine ⟨((n0 xs (41, 0, 0), 0, 0, 0), 0, (n0 xs (41, 1, 0), 0, 0, 0), (n0 xs (41, 12, 0), n0 xs (41, 13, 0), n0 xs (41, 14, 0)), (n0 xs (41, 15, 0), n0 xs (41, 16, 0), n0 xs (41, 17, 0), n0 xs (41, 18, 0)), (n0 xs (41, 20, 0), 0), (n0 xs (41, 4, 0), 0)), ⟨?_, rfl, fun q => absurd rfl q, ?_, ?_, ⟨rfl, fun q _ => rfl⟩, ⟨rfl, fun k _ => by show (0 : Int32) = i8 0; decide⟩, ⟨rfl, rfl, rfl, rfl, rfl, rfl⟩, ⟨SB0 ?_, SB0 ?_, SB0 ?_, SB0 ?_, SB0 ?_, SB0 ?_⟩⟩, ⟨rfl, rfl, rfl, fun _ _ => rfl, rfl, rfl, rfl, rfl, rfl, rfl, rfl, rfl, ⟨fun _ _ => rfl, rfl, rfl, rfl, rfl⟩, fun _ => false, fun k _ => by show (0 : Int32) = bI (false = true); decide⟩, ⟨GF_of rfl rfl rfl ⟨3, by decide, rfl⟩ rfl (fun k hk => f0_hi (xs := xs) hk), rfl, Nat.zero_le _⟩, ⟨GF_of rfl rfl rfl ⟨0, by decide, rfl⟩ rfl (fun _ _ => rfl), rfl, Nat.zero_le _⟩, ?_, fun k _ => Or.inr ⟨by show (-99999 : Int32) ≤ 0; decide, by show (0 : Int32) ≤ 99999; decide⟩, fun a _ h => absurd h (by show ¬ (0 : Int32) = 2; decide), Nat.zero_le _, fun k _ => ⟨0, by decide, rfl⟩, Nat.zero_le _⟩
  · refine ⟨⟨fun k hk hv => ?_, ?_, rfl, Nat.zero_le _⟩, fun t ht => absurd ht (Nat.not_lt_zero t), fun t _ n hn => by cases hn⟩
    · have hc : cn (n0 xs (41, 0, 0)) = 0 := by unfold cn; show (0 : Int32).toNatClampNeg = 0; decide
      rw [hc] at hv
      exact rc0 k (by omega)
    · have hc : cn (n0 xs (41, 0, 0)) = 0 := by unfold cn; show (0 : Int32).toNatClampNeg = 0; decide
      unfold mny
      rw [hc]
      rfl
  · intro a ha
    exact ⟨(if_pos ha).symm, rfl, fun k _ => rfl⟩
  · intro a ha
    exact ⟨rfl, fun h => absurd h (by show ¬ (0 : Int32) = 1; decide), fun h => absurd h (by show ¬ (0 : Int32) = 2; decide), fun h => absurd h (by show ¬ (0 : Int32) = 3; decide)⟩
  · decide
  · decide
  · decide
  · decide
  · decide
  · decide
  · intro a ha
    exact ⟨Or.inl (if_pos ha), 0, by decide, rfl⟩
/-- the state ahead of all: nothing is made -/
def st0 (L : Nat) (xs : Nat → Int32) : St := hs (n0 xs, rfs (fun _ _ => none), lnf (L, fun _ => 0), 0, 0)
theorem st0_ex (L : Nat) (xs : Nat → Int32) (r : Rf) (h : r.1 < 5) : (st0 L xs).1 r = xH xs r ∧ (st0 L xs).2.1 r = xL L r := by
  obtain ⟨t, a, b⟩ := r
  have h5 : t < 5 := h
  rcases (by omega : t = 0 ∨ t = 1 ∨ t = 2 ∨ t = 3 ∨ t = 4) with e | e | e | e | e <;> subst e
  · exact ⟨rfl, rfl⟩
  · exact ⟨rfl, rfl⟩
  · refine ⟨?_, rfl⟩
    funext k
    show (if decide (k = 0) = true then vI 0 else .inr (.inr (some (3, a, 0)))) = (if k = 0 then vI 0 else vR 3 a 0)
    by_cases e : k = 0
    · rw [if_pos e, if_pos (decide_eq_true e)]
    · rw [if_neg e, if_neg (by rw [decide_eq_false e]; decide)]
  · exact ⟨rfl, rfl⟩
  · exact ⟨rfl, rfl⟩
theorem law_pure (L : Nat) (hL : L ≤ 3072) (xs : Nat → Int32) : ∃ n σ', xc n 14 ML_law 0 (qent [vR 0 0 0] 4) [] (st0 L xs) = some (some (vI 1), σ') ∧ σ'.2.2.1 ≤ 600000 ∧ σ'.2.2.2 ≤ 7302250 := by
  have key : Wp (5 + 9) ML_law 0 [some (vR 0 0 0), none, none, none] [] (st0 L xs) (fun v σ => v = some (vI 1) ∧ σ.2.2.1 ≤ 600000 ∧ σ.2.2.2 ≤ 7302250) := by
    have hG : Ge L xs nilP nilP (n0 xs, rfs (fun _ _ => none), lnf (L, fun _ => 0), 0, 0) := ⟨fun _ _ _ => rfl, fun _ _ _ => rfl, rfl⟩
    have hn : Cn (n0 xs, rfs (fun _ _ => none), lnf (L, fun _ => 0), 0, 0) 0 := ⟨rfl, Nat.le_refl _⟩
    refine wg_new (A' := nilP) (B' := lj nilP (10, 0, 0) [0, 1, 2, 3, 4, 5, 6, 7]) (N' := 1) (r := (10, 0, 0)) dL_law_0 nRL_7 hn rfl rfl df10 (by decide) rfl hG (fun _ _ h => h) (fun _ _ => rfl) (fun _ _ h => Or.inl h) (fun k hk => yy10 (fun z => hk (Or.inr ⟨rfl, z⟩))) rfl rfl (fun y hG hn => ?_)
    refine wp_dup dL_law_3 rfl rfl ?_
    refine wg_init (A := nilP) (B := nilP) (N := 113) dL_law_4 rRL_9 (show 5 ≤ 10 by decide) (Nat.le_of_ble_eq_true rfl) (Nat.le_of_ble_eq_true rfl) rfl (g_class (d := 10) hn hG) (fun y hG hn => ?_)
    refine wp_astore_n (l' := [_, some _, _, _]) dL_law_7 rfl rfl ?_
    refine wg_new (A' := nilP) (B' := lj nilP (40, 0, 0) [0, 1, 2, 4, 5, 13, 14, 15, 18, 20, 21, 22, 23, 24, 25, 26, 27, 28, 29, 30, 31]) (N' := 114) (r := (40, 0, 0)) dL_law_8 nRL_10 hn rfl rfl df40 (by decide) rfl hG (fun _ _ h => h) (fun _ _ => rfl) (fun _ _ h => Or.inl h) (fun k hk => yy40 (fun z => hk (Or.inr ⟨rfl, z⟩))) rfl rfl (fun y hG hn => ?_)
    refine wp_dup dL_law_11 rfl rfl ?_
    refine wg_init (A := nilP) (B := nilP) (N := 135) dL_law_12 rRL_12 (show 5 ≤ 40 by decide) (Nat.le_of_ble_eq_true rfl) (Nat.le_of_ble_eq_true rfl) rfl (g_model (d := 12) hn hG) (fun y hG hn => ?_)
    refine wp_astore_n (l' := [_, _, some _, _]) dL_law_15 rfl rfl ?_
    refine wp_iconst (v := 0) dL_law_16 (by decide) rfl ?_
    refine wp_istore_n (l' := [_, _, _, some _]) dL_law_17 rfl rfl ?_
    obtain ⟨y1, y2, y3, y4, y5⟩ := y
    have e1 : y1 = n0 xs := funext fun z => funext fun k => hG.1 z k (fun q => q)
    have e2 : y2 = rfs (fun _ _ => none) := funext fun z => funext fun k => hG.2.1 z k (fun q => q)
    have e3 : y3 = lnf (L, fun _ => 0) := hG.2.2
    have e4 : y4 = 135 := hn.1
    have e5 : y5 ≤ 2000 * 135 := hn.2
    subst e1; subst e2; subst e3; subst e4
    exact l_loop (d := 5) hL L 0 (zs0 L xs y5) (by omega) (by omega) inv0 rfl (Nat.le_refl 0) (show y5 ≤ 270000 + 196 * 0 by omega)
  obtain ⟨n, v, σ', h1, rfl, h2, h3⟩ := key
  exact ⟨n, σ', h1, h2, h3⟩
