section
variable {d i j : Nat}
/-- the cells that a river's taking over writes -/
def XT (i : Nat) : Rf → Prop := fun r => r.2.1 = i ∧ (r.1 = 11 ∨ r.1 = 17 ∨ r.1 = 14 ∨ r.1 = 15 ∨ r.1 = 12)
def tkW (s : Sn) (i j k : Nat) : Sn := (s.1, fun a b => if a = i ∧ b < k then s.2.1 j b else s.2.1 a b, s.2.2)
theorem tkW_s {s : Sn} {k : Nat} (hij : i ≠ j) : sW (tkW s i j k) i k ((tkW s i j k).2.1 j k) = tkW s i j (k + 1) := by
  have e0 : (tkW s i j k).2.1 j k = s.2.1 j k := if_neg (fun z => hij z.1.symm)
  rw [e0]
  unfold sW tkW
  dsimp only
  congr 2
  funext a b
  by_cases h1 : a = i ∧ b = k
  · rw [if_pos h1, if_pos ⟨h1.1, by omega⟩, h1.2]
  · rw [if_neg h1]
    by_cases h2 : a = i ∧ b < k
    · rw [if_pos h2, if_pos ⟨h2.1, by omega⟩]
    · rw [if_neg h2, if_neg (fun z => by
        by_cases e : b = k
        · exact h1 ⟨z.1, e⟩
        · exact h2 ⟨z.1, by omega⟩)]
theorem tkW_0 {s : Sn} : tkW s i j 0 = s := by
  unfold tkW
  have : (fun a b => if a = i ∧ b < 0 then s.2.1 j b else s.2.1 a b) = s.2.1 := by
    funext a b
    rw [if_neg (fun z => absurd z.2 (Nat.not_lt_zero b))]
  rw [this]
theorem l3_tkW {s : Sn} {P : Option Av → St → Prop} (hi : i < 4) (hj : j < 4) (hij : i ≠ j) (hA : ∀ t, t < 14 → ∀ n, s.2.1 j t = some n → n < s.2.2.2.1) (kk : P none (hN (tkW s i j 14))) : ∀ k, k ≤ 14 → Wp d MX3_takeOver 156 [some (vR 11 i 0), some (vR 11 j 0), some (vI (nI k))] [] (hN (tkW s i j k)) P := by
  refine ind_up (fun k hk ih => ?_)
  refine wp_iload_n dX3_takeOver_156 rfl rfl ?_
  refine wp_bipush (v := 14) dX3_takeOver_157 (by decide) rfl ?_
  refine wp_icmp_ge (t := 180) dX3_takeOver_159 rfl rfl (fun h159 => ?_) (fun h159 => ?_)
  · refine wp_ret dX3_takeOver_180 rfl ?_
    have hk14 : k = 14 := by have := (nI_leI (a := 14) (by omega) (by omega)).mp h159; omega
    rw [hk14]
    exact kk
  · have hl : k < 14 := by have := mt (nI_leI (a := 14) (by omega) (by omega)).mpr h159; omega
    refine wp_aload_n dX3_takeOver_162 rfl rfl ?_
    refine wn_getR dX3_takeOver_163 fRX3_32 (o11 hi) rfl rfl rfl ?_
    refine wp_iload_n dX3_takeOver_166 rfl rfl ?_
    refine wp_aload_n dX3_takeOver_167 rfl rfl ?_
    refine wn_getR dX3_takeOver_168 fRX3_32 (o11 hj) rfl rfl rfl ?_
    refine wp_iload_n dX3_takeOver_171 rfl rfl ?_
    refine wn_aald18 dX3_takeOver_172 hj (nIx rfl (by omega)) (show k < 14 from hl) rfl ?_
    refine wn_aast18 dX3_takeOver_173 hi (nIx rfl (by omega)) (show k < 14 from hl) (fun n hn => hA k hl n (by rw [← hn]; exact (if_neg (fun z => hij z.1.symm)).symm)) rfl ?_
    refine wp_iinc (l' := [_, _, some _]) (v := 1) dX3_takeOver_174 rfl (by decide) rfl rfl ?_
    refine wp_goto (t := 156) dX3_takeOver_177 rfl ?_
    rw [nI_1, tkW_s hij]
    exact ih hl
theorem l3_tkL {s : Sn} {P : Option Av → St → Prop} (hi : i < 4) (hj : j < 4) (hij : i ≠ j) (kk : ∀ s2 : Sn, (∀ g, g < 12 → ∀ w, w < 5 → s2.1 (12, i, g) w = s.1 (12, j, g) w) → FQ (fun r => r.2.1 = i ∧ r.1 = 12) s s2 → Wp (d + 1) MX3_takeOver 154 [some (vR 11 i 0), some (vR 11 j 0), some (vI (nI 12))] [] (hN s2) P) : ∀ k, k ≤ 12 → ∀ s1 : Sn, (∀ g, g < k → ∀ w, w < 5 → s1.1 (12, i, g) w = s.1 (12, j, g) w) → FQ (fun r => r.2.1 = i ∧ r.1 = 12) s s1 → Wp (d + 1) MX3_takeOver 127 [some (vR 11 i 0), some (vR 11 j 0), some (vI (nI k))] [] (hN s1) P := by
  refine ind_up (fun k hk ih => ?_)
  intro s1 hL hF
  refine wp_iload_n dX3_takeOver_127 rfl rfl ?_
  refine wp_bipush (v := 12) dX3_takeOver_128 (by decide) rfl ?_
  refine wp_icmp_ge (t := 154) dX3_takeOver_130 rfl rfl (fun h130 => ?_) (fun h130 => ?_)
  · have hk12 : k = 12 := by have := (nI_leI (a := 12) (by omega) (by omega)).mp h130; omega
    subst hk12
    exact kk s1 hL hF
  · have hl : k < 12 := by have := mt (nI_leI (a := 12) (by omega) (by omega)).mpr h130; omega
    refine wp_aload_n dX3_takeOver_133 rfl rfl ?_
    refine wn_getR dX3_takeOver_134 fRX3_11 (o11 hi) rfl rfl rfl ?_
    refine wp_iload_n dX3_takeOver_137 rfl rfl ?_
    refine wn_aald13 dX3_takeOver_138 hi (nIx rfl (by omega)) hl rfl ?_
    refine wp_aload_n dX3_takeOver_139 rfl rfl ?_
    refine wn_getR dX3_takeOver_140 fRX3_11 (o11 hj) rfl rfl rfl ?_
    refine wp_iload_n dX3_takeOver_143 rfl rfl ?_
    refine wn_aald13 dX3_takeOver_144 hj (nIx rfl (by omega)) hl rfl ?_
    refine wn_callV1n dX3_takeOver_145 rRX3_74 (rcv_of (o12 hi hl) rfl) (Nat.le_of_ble_eq_true rfl) rfl (Nat.le_of_ble_eq_true rfl) rfl (c1_take hi hj hl (fun z => hij (congrArg (fun r : Rf => r.2.1) z).symm)) (fun s145 hq145 => ?_)
    obtain ⟨hw, hF2⟩ := hq145
    refine wp_iinc (l' := [_, _, some _]) (v := 1) dX3_takeOver_148 rfl (by decide) rfl rfl ?_
    refine wp_goto (t := 127) dX3_takeOver_151 rfl ?_
    rw [nI_1]
    refine ih hl s145 (fun g hg w hw5 => ?_) (hF.tr (hF2.wd (fun r hr => by rw [show r = (12, i, k) from hr]; exact ⟨rfl, rfl⟩)))
    by_cases e : g = k
    · rw [e, hw w hw5, hF.1 (12, j, k) (fun z => hij z.1.symm)]
    · rw [hF2.1 (12, i, g) (fun z => e (congrArg (fun r : Rf => r.2.2) z))]; exact hL g (by omega) w hw5
end
