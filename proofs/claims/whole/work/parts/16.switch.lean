/-! THE PURE PART: switches -/
theorem eqI {x y : Int32} (h : x.toInt = y.toInt) : x = y := Int32.toInt_inj.mp h
section SW
variable {d : Nat} {μ : Mu} {pc t : Nat} {l : Lv} {st : List Av} {σ : St} {P : Option Av → St → Prop} {x : Int32}
theorem wp_tsw3 {df lo hi : Int} {os : Array Int} {len : Nat} {c0 c1 c2 : Int32} {o0 o1 o2 : Int} {t0 t1 t2 : Nat} (hd : decode μ.1 pc = .ok (.tableswitch df lo hi os, len)) (hh : lo + 2 = hi) (hc0 : c0.toInt = lo + 0) (hc1 : c1.toInt = lo + 1) (hc2 : c2.toInt = lo + 2) (ho0 : os[0]? = some o0) (ht0 : qjmp pc o0 = some t0) (ho1 : os[1]? = some o1) (ht1 : qjmp pc o1 = some t1) (ho2 : os[2]? = some o2) (ht2 : qjmp pc o2 = some t2) (htd : qjmp pc df = some t) (k0 : x = c0 → Wp d μ t0 l st σ P) (k1 : x = c1 → Wp d μ t1 l st σ P) (k2 : x = c2 → Wp d μ t2 l st σ P) (kd : ¬ x = c0 → ¬ x = c1 → ¬ x = c2 → Wp d μ t l st σ P) : Wp d μ pc l (vI x :: st) σ P := by
  by_cases h0 : x = c0
  · exact wp_tswI 0 hd (by rw [h0, hc0]; rfl) (by omega) ho0 ht0 (k0 h0)
  by_cases h1 : x = c1
  · exact wp_tswI 1 hd (by rw [h1, hc1]; rfl) (by omega) ho1 ht1 (k1 h1)
  by_cases h2 : x = c2
  · exact wp_tswI 2 hd (by rw [h2, hc2]; rfl) (by omega) ho2 ht2 (k2 h2)
  refine wp_tswO hd ?_ htd (kd h0 h1 h2)
  by_cases hlo : x.toInt < lo
  · exact Or.inl hlo
  · by_cases hhi : hi < x.toInt
    · exact Or.inr hhi
    · exfalso
      obtain ⟨n, hn⟩ : ∃ n : Nat, x.toInt = lo + n := ⟨(x.toInt - lo).toNat, by omega⟩
      have hn2 : n < 3 := by omega
      match n, hn2, hn with
      | 0, _, hn => exact h0 (eqI (hn.trans hc0.symm))
      | 1, _, hn => exact h1 (eqI (hn.trans hc1.symm))
      | 2, _, hn => exact h2 (eqI (hn.trans hc2.symm))
theorem wp_tsw4 {df lo hi : Int} {os : Array Int} {len : Nat} {c0 c1 c2 c3 : Int32} {o0 o1 o2 o3 : Int} {t0 t1 t2 t3 : Nat} (hd : decode μ.1 pc = .ok (.tableswitch df lo hi os, len)) (hh : lo + 3 = hi) (hc0 : c0.toInt = lo + 0) (hc1 : c1.toInt = lo + 1) (hc2 : c2.toInt = lo + 2) (hc3 : c3.toInt = lo + 3) (ho0 : os[0]? = some o0) (ht0 : qjmp pc o0 = some t0) (ho1 : os[1]? = some o1) (ht1 : qjmp pc o1 = some t1) (ho2 : os[2]? = some o2) (ht2 : qjmp pc o2 = some t2) (ho3 : os[3]? = some o3) (ht3 : qjmp pc o3 = some t3) (htd : qjmp pc df = some t) (k0 : x = c0 → Wp d μ t0 l st σ P) (k1 : x = c1 → Wp d μ t1 l st σ P) (k2 : x = c2 → Wp d μ t2 l st σ P) (k3 : x = c3 → Wp d μ t3 l st σ P) (kd : ¬ x = c0 → ¬ x = c1 → ¬ x = c2 → ¬ x = c3 → Wp d μ t l st σ P) : Wp d μ pc l (vI x :: st) σ P := by
  by_cases h0 : x = c0
  · exact wp_tswI 0 hd (by rw [h0, hc0]; rfl) (by omega) ho0 ht0 (k0 h0)
  by_cases h1 : x = c1
  · exact wp_tswI 1 hd (by rw [h1, hc1]; rfl) (by omega) ho1 ht1 (k1 h1)
  by_cases h2 : x = c2
  · exact wp_tswI 2 hd (by rw [h2, hc2]; rfl) (by omega) ho2 ht2 (k2 h2)
  by_cases h3 : x = c3
  · exact wp_tswI 3 hd (by rw [h3, hc3]; rfl) (by omega) ho3 ht3 (k3 h3)
  refine wp_tswO hd ?_ htd (kd h0 h1 h2 h3)
  by_cases hlo : x.toInt < lo
  · exact Or.inl hlo
  · by_cases hhi : hi < x.toInt
    · exact Or.inr hhi
    · exfalso
      obtain ⟨n, hn⟩ : ∃ n : Nat, x.toInt = lo + n := ⟨(x.toInt - lo).toNat, by omega⟩
      have hn2 : n < 4 := by omega
      match n, hn2, hn with
      | 0, _, hn => exact h0 (eqI (hn.trans hc0.symm))
      | 1, _, hn => exact h1 (eqI (hn.trans hc1.symm))
      | 2, _, hn => exact h2 (eqI (hn.trans hc2.symm))
      | 3, _, hn => exact h3 (eqI (hn.trans hc3.symm))
theorem wp_tsw5 {df lo hi : Int} {os : Array Int} {len : Nat} {c0 c1 c2 c3 c4 : Int32} {o0 o1 o2 o3 o4 : Int} {t0 t1 t2 t3 t4 : Nat} (hd : decode μ.1 pc = .ok (.tableswitch df lo hi os, len)) (hh : lo + 4 = hi) (hc0 : c0.toInt = lo + 0) (hc1 : c1.toInt = lo + 1) (hc2 : c2.toInt = lo + 2) (hc3 : c3.toInt = lo + 3) (hc4 : c4.toInt = lo + 4) (ho0 : os[0]? = some o0) (ht0 : qjmp pc o0 = some t0) (ho1 : os[1]? = some o1) (ht1 : qjmp pc o1 = some t1) (ho2 : os[2]? = some o2) (ht2 : qjmp pc o2 = some t2) (ho3 : os[3]? = some o3) (ht3 : qjmp pc o3 = some t3) (ho4 : os[4]? = some o4) (ht4 : qjmp pc o4 = some t4) (htd : qjmp pc df = some t) (k0 : x = c0 → Wp d μ t0 l st σ P) (k1 : x = c1 → Wp d μ t1 l st σ P) (k2 : x = c2 → Wp d μ t2 l st σ P) (k3 : x = c3 → Wp d μ t3 l st σ P) (k4 : x = c4 → Wp d μ t4 l st σ P) (kd : ¬ x = c0 → ¬ x = c1 → ¬ x = c2 → ¬ x = c3 → ¬ x = c4 → Wp d μ t l st σ P) : Wp d μ pc l (vI x :: st) σ P := by
  by_cases h0 : x = c0
  · exact wp_tswI 0 hd (by rw [h0, hc0]; rfl) (by omega) ho0 ht0 (k0 h0)
  by_cases h1 : x = c1
  · exact wp_tswI 1 hd (by rw [h1, hc1]; rfl) (by omega) ho1 ht1 (k1 h1)
  by_cases h2 : x = c2
  · exact wp_tswI 2 hd (by rw [h2, hc2]; rfl) (by omega) ho2 ht2 (k2 h2)
  by_cases h3 : x = c3
  · exact wp_tswI 3 hd (by rw [h3, hc3]; rfl) (by omega) ho3 ht3 (k3 h3)
  by_cases h4 : x = c4
  · exact wp_tswI 4 hd (by rw [h4, hc4]; rfl) (by omega) ho4 ht4 (k4 h4)
  refine wp_tswO hd ?_ htd (kd h0 h1 h2 h3 h4)
  by_cases hlo : x.toInt < lo
  · exact Or.inl hlo
  · by_cases hhi : hi < x.toInt
    · exact Or.inr hhi
    · exfalso
      obtain ⟨n, hn⟩ : ∃ n : Nat, x.toInt = lo + n := ⟨(x.toInt - lo).toNat, by omega⟩
      have hn2 : n < 5 := by omega
      match n, hn2, hn with
      | 0, _, hn => exact h0 (eqI (hn.trans hc0.symm))
      | 1, _, hn => exact h1 (eqI (hn.trans hc1.symm))
      | 2, _, hn => exact h2 (eqI (hn.trans hc2.symm))
      | 3, _, hn => exact h3 (eqI (hn.trans hc3.symm))
      | 4, _, hn => exact h4 (eqI (hn.trans hc4.symm))
theorem wp_tsw8 {df lo hi : Int} {os : Array Int} {len : Nat} {c0 c1 c2 c3 c4 c5 c6 c7 : Int32} {o0 o1 o2 o3 o4 o5 o6 o7 : Int} {t0 t1 t2 t3 t4 t5 t6 t7 : Nat} (hd : decode μ.1 pc = .ok (.tableswitch df lo hi os, len)) (hh : lo + 7 = hi) (hc0 : c0.toInt = lo + 0) (hc1 : c1.toInt = lo + 1) (hc2 : c2.toInt = lo + 2) (hc3 : c3.toInt = lo + 3) (hc4 : c4.toInt = lo + 4) (hc5 : c5.toInt = lo + 5) (hc6 : c6.toInt = lo + 6) (hc7 : c7.toInt = lo + 7) (ho0 : os[0]? = some o0) (ht0 : qjmp pc o0 = some t0) (ho1 : os[1]? = some o1) (ht1 : qjmp pc o1 = some t1) (ho2 : os[2]? = some o2) (ht2 : qjmp pc o2 = some t2) (ho3 : os[3]? = some o3) (ht3 : qjmp pc o3 = some t3) (ho4 : os[4]? = some o4) (ht4 : qjmp pc o4 = some t4) (ho5 : os[5]? = some o5) (ht5 : qjmp pc o5 = some t5) (ho6 : os[6]? = some o6) (ht6 : qjmp pc o6 = some t6) (ho7 : os[7]? = some o7) (ht7 : qjmp pc o7 = some t7) (htd : qjmp pc df = some t) (k0 : x = c0 → Wp d μ t0 l st σ P) (k1 : x = c1 → Wp d μ t1 l st σ P) (k2 : x = c2 → Wp d μ t2 l st σ P) (k3 : x = c3 → Wp d μ t3 l st σ P) (k4 : x = c4 → Wp d μ t4 l st σ P) (k5 : x = c5 → Wp d μ t5 l st σ P) (k6 : x = c6 → Wp d μ t6 l st σ P) (k7 : x = c7 → Wp d μ t7 l st σ P) (kd : ¬ x = c0 → ¬ x = c1 → ¬ x = c2 → ¬ x = c3 → ¬ x = c4 → ¬ x = c5 → ¬ x = c6 → ¬ x = c7 → Wp d μ t l st σ P) : Wp d μ pc l (vI x :: st) σ P := by
  by_cases h0 : x = c0
  · exact wp_tswI 0 hd (by rw [h0, hc0]; rfl) (by omega) ho0 ht0 (k0 h0)
  by_cases h1 : x = c1
  · exact wp_tswI 1 hd (by rw [h1, hc1]; rfl) (by omega) ho1 ht1 (k1 h1)
  by_cases h2 : x = c2
  · exact wp_tswI 2 hd (by rw [h2, hc2]; rfl) (by omega) ho2 ht2 (k2 h2)
  by_cases h3 : x = c3
  · exact wp_tswI 3 hd (by rw [h3, hc3]; rfl) (by omega) ho3 ht3 (k3 h3)
  by_cases h4 : x = c4
  · exact wp_tswI 4 hd (by rw [h4, hc4]; rfl) (by omega) ho4 ht4 (k4 h4)
  by_cases h5 : x = c5
  · exact wp_tswI 5 hd (by rw [h5, hc5]; rfl) (by omega) ho5 ht5 (k5 h5)
  by_cases h6 : x = c6
  · exact wp_tswI 6 hd (by rw [h6, hc6]; rfl) (by omega) ho6 ht6 (k6 h6)
  by_cases h7 : x = c7
  · exact wp_tswI 7 hd (by rw [h7, hc7]; rfl) (by omega) ho7 ht7 (k7 h7)
  refine wp_tswO hd ?_ htd (kd h0 h1 h2 h3 h4 h5 h6 h7)
  by_cases hlo : x.toInt < lo
  · exact Or.inl hlo
  · by_cases hhi : hi < x.toInt
    · exact Or.inr hhi
    · exfalso
      obtain ⟨n, hn⟩ : ∃ n : Nat, x.toInt = lo + n := ⟨(x.toInt - lo).toNat, by omega⟩
      have hn2 : n < 8 := by omega
      match n, hn2, hn with
      | 0, _, hn => exact h0 (eqI (hn.trans hc0.symm))
      | 1, _, hn => exact h1 (eqI (hn.trans hc1.symm))
      | 2, _, hn => exact h2 (eqI (hn.trans hc2.symm))
      | 3, _, hn => exact h3 (eqI (hn.trans hc3.symm))
      | 4, _, hn => exact h4 (eqI (hn.trans hc4.symm))
      | 5, _, hn => exact h5 (eqI (hn.trans hc5.symm))
      | 6, _, hn => exact h6 (eqI (hn.trans hc6.symm))
      | 7, _, hn => exact h7 (eqI (hn.trans hc7.symm))
theorem wp_tsw10 {df lo hi : Int} {os : Array Int} {len : Nat} {c0 c1 c2 c3 c4 c5 c6 c7 c8 c9 : Int32} {o0 o1 o2 o3 o4 o5 o6 o7 o8 o9 : Int} {t0 t1 t2 t3 t4 t5 t6 t7 t8 t9 : Nat} (hd : decode μ.1 pc = .ok (.tableswitch df lo hi os, len)) (hh : lo + 9 = hi) (hc0 : c0.toInt = lo + 0) (hc1 : c1.toInt = lo + 1) (hc2 : c2.toInt = lo + 2) (hc3 : c3.toInt = lo + 3) (hc4 : c4.toInt = lo + 4) (hc5 : c5.toInt = lo + 5) (hc6 : c6.toInt = lo + 6) (hc7 : c7.toInt = lo + 7) (hc8 : c8.toInt = lo + 8) (hc9 : c9.toInt = lo + 9) (ho0 : os[0]? = some o0) (ht0 : qjmp pc o0 = some t0) (ho1 : os[1]? = some o1) (ht1 : qjmp pc o1 = some t1) (ho2 : os[2]? = some o2) (ht2 : qjmp pc o2 = some t2) (ho3 : os[3]? = some o3) (ht3 : qjmp pc o3 = some t3) (ho4 : os[4]? = some o4) (ht4 : qjmp pc o4 = some t4) (ho5 : os[5]? = some o5) (ht5 : qjmp pc o5 = some t5) (ho6 : os[6]? = some o6) (ht6 : qjmp pc o6 = some t6) (ho7 : os[7]? = some o7) (ht7 : qjmp pc o7 = some t7) (ho8 : os[8]? = some o8) (ht8 : qjmp pc o8 = some t8) (ho9 : os[9]? = some o9) (ht9 : qjmp pc o9 = some t9) (htd : qjmp pc df = some t) (k0 : x = c0 → Wp d μ t0 l st σ P) (k1 : x = c1 → Wp d μ t1 l st σ P) (k2 : x = c2 → Wp d μ t2 l st σ P) (k3 : x = c3 → Wp d μ t3 l st σ P) (k4 : x = c4 → Wp d μ t4 l st σ P) (k5 : x = c5 → Wp d μ t5 l st σ P) (k6 : x = c6 → Wp d μ t6 l st σ P) (k7 : x = c7 → Wp d μ t7 l st σ P) (k8 : x = c8 → Wp d μ t8 l st σ P) (k9 : x = c9 → Wp d μ t9 l st σ P) (kd : ¬ x = c0 → ¬ x = c1 → ¬ x = c2 → ¬ x = c3 → ¬ x = c4 → ¬ x = c5 → ¬ x = c6 → ¬ x = c7 → ¬ x = c8 → ¬ x = c9 → Wp d μ t l st σ P) : Wp d μ pc l (vI x :: st) σ P := by
  by_cases h0 : x = c0
  · exact wp_tswI 0 hd (by rw [h0, hc0]; rfl) (by omega) ho0 ht0 (k0 h0)
  by_cases h1 : x = c1
  · exact wp_tswI 1 hd (by rw [h1, hc1]; rfl) (by omega) ho1 ht1 (k1 h1)
  by_cases h2 : x = c2
  · exact wp_tswI 2 hd (by rw [h2, hc2]; rfl) (by omega) ho2 ht2 (k2 h2)
  by_cases h3 : x = c3
  · exact wp_tswI 3 hd (by rw [h3, hc3]; rfl) (by omega) ho3 ht3 (k3 h3)
  by_cases h4 : x = c4
  · exact wp_tswI 4 hd (by rw [h4, hc4]; rfl) (by omega) ho4 ht4 (k4 h4)
  by_cases h5 : x = c5
  · exact wp_tswI 5 hd (by rw [h5, hc5]; rfl) (by omega) ho5 ht5 (k5 h5)
  by_cases h6 : x = c6
  · exact wp_tswI 6 hd (by rw [h6, hc6]; rfl) (by omega) ho6 ht6 (k6 h6)
  by_cases h7 : x = c7
  · exact wp_tswI 7 hd (by rw [h7, hc7]; rfl) (by omega) ho7 ht7 (k7 h7)
  by_cases h8 : x = c8
  · exact wp_tswI 8 hd (by rw [h8, hc8]; rfl) (by omega) ho8 ht8 (k8 h8)
  by_cases h9 : x = c9
  · exact wp_tswI 9 hd (by rw [h9, hc9]; rfl) (by omega) ho9 ht9 (k9 h9)
  refine wp_tswO hd ?_ htd (kd h0 h1 h2 h3 h4 h5 h6 h7 h8 h9)
  by_cases hlo : x.toInt < lo
  · exact Or.inl hlo
  · by_cases hhi : hi < x.toInt
    · exact Or.inr hhi
    · exfalso
      obtain ⟨n, hn⟩ : ∃ n : Nat, x.toInt = lo + n := ⟨(x.toInt - lo).toNat, by omega⟩
      have hn2 : n < 10 := by omega
      match n, hn2, hn with
      | 0, _, hn => exact h0 (eqI (hn.trans hc0.symm))
      | 1, _, hn => exact h1 (eqI (hn.trans hc1.symm))
      | 2, _, hn => exact h2 (eqI (hn.trans hc2.symm))
      | 3, _, hn => exact h3 (eqI (hn.trans hc3.symm))
      | 4, _, hn => exact h4 (eqI (hn.trans hc4.symm))
      | 5, _, hn => exact h5 (eqI (hn.trans hc5.symm))
      | 6, _, hn => exact h6 (eqI (hn.trans hc6.symm))
      | 7, _, hn => exact h7 (eqI (hn.trans hc7.symm))
      | 8, _, hn => exact h8 (eqI (hn.trans hc8.symm))
      | 9, _, hn => exact h9 (eqI (hn.trans hc9.symm))
theorem wp_lsw2 {df : Int} {ps : Array (Int × Int)} {len : Nat} {c0 c1 : Int32} {a0 a1 o0 o1 : Int} {t0 t1 : Nat} (hd : decode μ.1 pc = .ok (.lookupswitch df ps, len)) (hps : ps.toList = [(a0, o0), (a1, o1)]) (ha : (ps.toList.zip (ps.toList.drop 1)).all (fun (a, next) => a.1 < next.1) = true) (hc0 : c0.toInt = a0) (hc1 : c1.toInt = a1) (hv0 : Op.lookupswitch.offset ps.toList df c0.toInt = o0) (hv1 : Op.lookupswitch.offset ps.toList df c1.toInt = o1) (ht0 : qjmp pc o0 = some t0) (ht1 : qjmp pc o1 = some t1) (htd : qjmp pc df = some t) (k0 : x = c0 → Wp d μ t0 l st σ P) (k1 : x = c1 → Wp d μ t1 l st σ P) (kd : ¬ x = c0 → ¬ x = c1 → Wp d μ t l st σ P) : Wp d μ pc l (vI x :: st) σ P := by
  by_cases h0 : x = c0
  · exact wp_lsw hd ha (by rw [h0]; exact hv0) ht0 (k0 h0)
  by_cases h1 : x = c1
  · exact wp_lsw hd ha (by rw [h1]; exact hv1) ht1 (k1 h1)
  refine wp_lsw hd ha ?_ htd (kd h0 h1)
  rw [hps]
  simp only [Op.lookupswitch.offset_cons, Op.lookupswitch.offset_nil]
  rw [if_neg (fun z => h0 (eqI (z.symm.trans hc0.symm)))]
  rw [if_neg (fun z => h1 (eqI (z.symm.trans hc1.symm)))]
theorem wp_lsw9 {df : Int} {ps : Array (Int × Int)} {len : Nat} {c0 c1 c2 c3 c4 c5 c6 c7 c8 : Int32} {a0 a1 a2 a3 a4 a5 a6 a7 a8 o0 o1 o2 o3 o4 o5 o6 o7 o8 : Int} {t0 t1 t2 t3 t4 t5 t6 t7 t8 : Nat} (hd : decode μ.1 pc = .ok (.lookupswitch df ps, len)) (hps : ps.toList = [(a0, o0), (a1, o1), (a2, o2), (a3, o3), (a4, o4), (a5, o5), (a6, o6), (a7, o7), (a8, o8)]) (ha : (ps.toList.zip (ps.toList.drop 1)).all (fun (a, next) => a.1 < next.1) = true) (hc0 : c0.toInt = a0) (hc1 : c1.toInt = a1) (hc2 : c2.toInt = a2) (hc3 : c3.toInt = a3) (hc4 : c4.toInt = a4) (hc5 : c5.toInt = a5) (hc6 : c6.toInt = a6) (hc7 : c7.toInt = a7) (hc8 : c8.toInt = a8) (hv0 : Op.lookupswitch.offset ps.toList df c0.toInt = o0) (hv1 : Op.lookupswitch.offset ps.toList df c1.toInt = o1) (hv2 : Op.lookupswitch.offset ps.toList df c2.toInt = o2) (hv3 : Op.lookupswitch.offset ps.toList df c3.toInt = o3) (hv4 : Op.lookupswitch.offset ps.toList df c4.toInt = o4) (hv5 : Op.lookupswitch.offset ps.toList df c5.toInt = o5) (hv6 : Op.lookupswitch.offset ps.toList df c6.toInt = o6) (hv7 : Op.lookupswitch.offset ps.toList df c7.toInt = o7) (hv8 : Op.lookupswitch.offset ps.toList df c8.toInt = o8) (ht0 : qjmp pc o0 = some t0) (ht1 : qjmp pc o1 = some t1) (ht2 : qjmp pc o2 = some t2) (ht3 : qjmp pc o3 = some t3) (ht4 : qjmp pc o4 = some t4) (ht5 : qjmp pc o5 = some t5) (ht6 : qjmp pc o6 = some t6) (ht7 : qjmp pc o7 = some t7) (ht8 : qjmp pc o8 = some t8) (htd : qjmp pc df = some t) (k0 : x = c0 → Wp d μ t0 l st σ P) (k1 : x = c1 → Wp d μ t1 l st σ P) (k2 : x = c2 → Wp d μ t2 l st σ P) (k3 : x = c3 → Wp d μ t3 l st σ P) (k4 : x = c4 → Wp d μ t4 l st σ P) (k5 : x = c5 → Wp d μ t5 l st σ P) (k6 : x = c6 → Wp d μ t6 l st σ P) (k7 : x = c7 → Wp d μ t7 l st σ P) (k8 : x = c8 → Wp d μ t8 l st σ P) (kd : ¬ x = c0 → ¬ x = c1 → ¬ x = c2 → ¬ x = c3 → ¬ x = c4 → ¬ x = c5 → ¬ x = c6 → ¬ x = c7 → ¬ x = c8 → Wp d μ t l st σ P) : Wp d μ pc l (vI x :: st) σ P := by
  by_cases h0 : x = c0
  · exact wp_lsw hd ha (by rw [h0]; exact hv0) ht0 (k0 h0)
  by_cases h1 : x = c1
  · exact wp_lsw hd ha (by rw [h1]; exact hv1) ht1 (k1 h1)
  by_cases h2 : x = c2
  · exact wp_lsw hd ha (by rw [h2]; exact hv2) ht2 (k2 h2)
  by_cases h3 : x = c3
  · exact wp_lsw hd ha (by rw [h3]; exact hv3) ht3 (k3 h3)
  by_cases h4 : x = c4
  · exact wp_lsw hd ha (by rw [h4]; exact hv4) ht4 (k4 h4)
  by_cases h5 : x = c5
  · exact wp_lsw hd ha (by rw [h5]; exact hv5) ht5 (k5 h5)
  by_cases h6 : x = c6
  · exact wp_lsw hd ha (by rw [h6]; exact hv6) ht6 (k6 h6)
  by_cases h7 : x = c7
  · exact wp_lsw hd ha (by rw [h7]; exact hv7) ht7 (k7 h7)
  by_cases h8 : x = c8
  · exact wp_lsw hd ha (by rw [h8]; exact hv8) ht8 (k8 h8)
  refine wp_lsw hd ha ?_ htd (kd h0 h1 h2 h3 h4 h5 h6 h7 h8)
  rw [hps]
  simp only [Op.lookupswitch.offset_cons, Op.lookupswitch.offset_nil]
  rw [if_neg (fun z => h0 (eqI (z.symm.trans hc0.symm)))]
  rw [if_neg (fun z => h1 (eqI (z.symm.trans hc1.symm)))]
  rw [if_neg (fun z => h2 (eqI (z.symm.trans hc2.symm)))]
  rw [if_neg (fun z => h3 (eqI (z.symm.trans hc3.symm)))]
  rw [if_neg (fun z => h4 (eqI (z.symm.trans hc4.symm)))]
  rw [if_neg (fun z => h5 (eqI (z.symm.trans hc5.symm)))]
  rw [if_neg (fun z => h6 (eqI (z.symm.trans hc6.symm)))]
  rw [if_neg (fun z => h7 (eqI (z.symm.trans hc7.symm)))]
  rw [if_neg (fun z => h8 (eqI (z.symm.trans hc8.symm)))]
end SW
