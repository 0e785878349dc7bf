/-! THE PURE PART, 91: a text comes to the class's river -/
theorem Kp.si {l J : List Nat} {s t : Sn} {r : Rf} {k : Nat} {v : Int32} (h : Kp l J s t) (hr : kq r ∈ l) : Kp l J s (sI t r k v) := ⟨fun z hz hq => (sI_nr (fun e => hz (by rw [e]; exact hr))).trans (h.1 z hz hq), h.2⟩
theorem Kp.sw {l J : List Nat} {s t : Sn} {i b : Nat} {o : Option Nat} (h : Kp l J s t) (hi : i ∈ J) : Kp l J s (sW t i b o) := ⟨h.1, fun a ha hJ => by
  have e : (sW t i b o).2.1 a = t.2.1 a := by
    funext q
    show (if a = i ∧ q = b then o else t.2.1 a q) = _
    rw [if_neg (fun z => hJ (by rw [z.1]; exact hi))]
  exact e.trans (h.2.1 a ha hJ), h.2.2⟩
theorem mkL_kp {s s2 : Sn} {key p : Int32} {c : Nat} (hF : Fr XC3 s s2) (hc : c ≤ 96) : Kp [20, 23, 24, 36] [] s (mkL s2 key p c) := by
  have hn : s2.2.2.2.1 = s.2.2.2.1 := by rw [hF.2]
  refine ⟨fun r hr hq => ?_, fun a _ _ => ?_, fun n hn2 => ?_, ?_, ?_, ?_, ?_⟩
  · have e : (mkL s2 key p c).1 r = s2.1 r := by
      funext j
      show (if r = (34, s2.2.2.2.1, 0) then (if j = 0 then key else if j = 1 then p else 0) else if r = (35, s2.2.2.2.1, 0) then (if j < c then s2.1 (23, 0, 0) j else 0) else if r = (36, s2.2.2.2.1, 0) then 0 else s2.1 r j) = _
      rw [if_neg (fun z => by have := hq (Or.inl (congrArg Prod.fst z)); have e2 : r.2.1 = s2.2.2.2.1 := congrArg (fun q : Rf => q.2.1) z; omega), if_neg (fun z => by have := hq (Or.inr (congrArg Prod.fst z)); have e2 : r.2.1 = s2.2.2.2.1 := congrArg (fun q : Rf => q.2.1) z; omega), if_neg (fun z => hr (by rw [kq_t (a := 36) (congrArg Prod.fst z) (by decide)]; decide))]
    rw [e]
    refine hF.1 r (fun z => hr ?_)
    rcases List.mem_cons.mp z with z | z
    · rw [z]; decide
    · rcases List.mem_cons.mp z with z | z
      · rw [z]; decide
      · rw [List.mem_singleton.mp z]; decide
  · show s2.2.1 a = _
    rw [hF.2]
  · show (if n = s2.2.2.2.1 then c else s2.2.2.1.2 n) = _
    rw [if_neg (by omega), hF.2]
  · show s.2.2.2.1 ≤ s2.2.2.2.1 + 1
    omega
  · show s2.2.2.1.1 = _
    rw [hF.2]
  · show s2.2.2.2.1 + 1 ≤ _
    omega
  · show s2.2.2.2.2 + 4 + c + max 1 c ≤ _
    have : s2.2.2.2.2 = s.2.2.2.2 := by rw [hF.2]
    omega
theorem adL_o {s : Sn} {n c8 : Nat} {r : Rf} (h : r ≠ (11, 0, 0)) : (adL s n c8).1 r = s.1 r := sI_nr h
theorem mkL_35 {s : Sn} {key p : Int32} {c j : Nat} : (mkL s key p c).1 (35, s.2.2.2.1, 0) j = if j < c then s.1 (23, 0, 0) j else 0 := by
  show (if ((35, s.2.2.2.1, 0) : Rf) = (34, s.2.2.2.1, 0) then (if j = 0 then key else if j = 1 then p else 0) else if ((35, s.2.2.2.1, 0) : Rf) = (35, s.2.2.2.1, 0) then (if j < c then s.1 (23, 0, 0) j else 0) else if ((35, s.2.2.2.1, 0) : Rf) = (36, s.2.2.2.1, 0) then 0 else s.1 (35, s.2.2.2.1, 0) j) = _
  rw [if_neg (fun z => absurd (congrArg Prod.fst z) (by show ¬ 35 = 34; decide)), if_pos rfl]
theorem txF_mny {f : Fl} {t e : Nat} {z : PZ} {c : Nat} (hcn : cn f = c) (hc : c ≤ 12) : mny (txF f t e z) 12 = mny f 12 := by
  have lo : ∀ q, q ≠ 8 → q < 105 → txF f t e z q = f q := fun q h8 hq => txF_o h8 (by omega) (by omega) (by omega)
  have ec : cn (txF f t e z) = cn f := by unfold cn; rw [lo 1 (by decide) (by decide)]
  unfold mny
  rw [ec]
  exact ctr_cong (fun g hg => by rw [lo _ (by omega) (by omega)])
/-- the new law stands for the new text; the old ones stay -/
theorem RVL.tx {s s2 : Sn} {f : Fl} {c c8 e : Nat} {z : PZ} (h : RVL s 0 f c c8) (hG : GF f c c8) (h14 : c8 < 14) (he : e < 3) (hz : zc z ≤ 96) (hC : CW s2 (zcf z) (zc z) (zwf z) (zh z)) (hF : Fr XC3 s s2) : RVL (adL (sI (mkL s2 (nI e) (nI (za z)) (zc z)) (21, 0, 0) 1 0) s2.2.2.2.1 c8) 0 (txF f c8 e z) c (c8 + 1) := by
  have hK : Kp [20, 21, 23, 24, 36] [] s (sI (mkL s2 (nI e) (nI (za z)) (zc z)) (21, 0, 0) 1 0) := Kp.si ((mkL_kp hF hz).wd (by decide) (by decide)) (by decide)
  have h0 := RVL.kp (by decide) h hK (by decide) (by decide) (by decide) (by decide)
  have hn : s2.2.2.2.1 = s.2.2.2.1 := by rw [hF.2]
  have hc12 := hG.1.1.2.1
  have hcn : cn f = c := hG.1.1.cn
  have lo : ∀ q, q ≠ 8 → q < 105 → txF f c8 e z q = f q := fun q h8 hq => txF_o h8 (by omega) (by omega) (by omega)
  obtain ⟨⟨hR, h13, h1, hc⟩, hL, hr⟩ := h0
  refine ⟨⟨?_, ?_, (lo 1 (by decide) (by decide)).trans h1, hc⟩, fun u hu => ?_, fun u hu n hq => ?_⟩
  · have h9 : RC (sI (sI (mkL s2 (nI e) (nI (za z)) (zc z)) (21, 0, 0) 1 0) (11, 0, 0) 8 (nI (c8 + 1))) 0 (upd f 8 (nI (c8 + 1))) := hR.pt (k := 8) (q := ((11, 0, 0), 8)) rfl (by decide)
    refine h9.cg (fun _ _ _ => rfl) (fun k hk => ?_)
    by_cases e8 : k = 8
    · subst e8; rw [upd_eq]; exact upd_eq
    · rw [upd_ne e8]; exact lo k e8 hk
  · rw [txF_mny hcn hc12]
    exact (sI_nk (by decide)).trans h13
  · by_cases eu : u = c8
    · subst eu
      have c34 : ∀ j, (adL (sI (mkL s2 (nI e) (nI (za z)) (zc z)) (21, 0, 0) 1 0) s2.2.2.2.1 u).1 (34, s2.2.2.2.1, 0) j = if j = 0 then nI e else if j = 1 then nI (za z) else 0 := fun j => (congrFun ((adL_o (fun q => absurd (congrArg Prod.fst q) (by show ¬ 34 = 11; decide))).trans (sI_nr (fun q => absurd (congrArg Prod.fst q) (by show ¬ 34 = 21; decide)))) j).trans (if_pos rfl)
      have c35 : ∀ j, (adL (sI (mkL s2 (nI e) (nI (za z)) (zc z)) (21, 0, 0) 1 0) s2.2.2.2.1 u).1 (35, s2.2.2.2.1, 0) j = (mkL s2 (nI e) (nI (za z)) (zc z)).1 (35, s2.2.2.2.1, 0) j := fun j => congrFun ((adL_o (fun q => absurd (congrArg Prod.fst q) (by show ¬ 35 = 11; decide))).trans (sI_nr (fun q => absurd (congrArg Prod.fst q) (by show ¬ 35 = 21; decide)))) j
      refine ⟨s2.2.2.2.1, if_pos ⟨rfl, rfl⟩, Nat.lt_succ_self _, ?_, ?_, zc z, hz, ?_, if_pos rfl, fun k hk => ?_⟩
      · rw [txF_k h14, key_d he hz, c34]
        exact if_pos rfl
      · rw [txF_p h14, c34]
        exact (if_neg (by decide)).trans (if_pos rfl)
      · rw [txF_k h14, key_r he hz]
      · rw [txF_c hk, ← hC.2.1 k hk, c35]
        exact mkL_35.trans (if_pos hk)
    · obtain ⟨n, e1, e2, g1, g2, m, q1, q2, q3, q4⟩ := hL u (by omega)
      have a0 : txF f c8 e z (105 + 2 * u) = f (105 + 2 * u) := txF_o (by omega) (by omega) (by omega) (by omega)
      refine ⟨n, ?_, e2, ?_, ?_, m, q1, by rw [a0]; exact q2, q3, fun k hk => ?_⟩
      · show (if 0 = 0 ∧ u = c8 then some s2.2.2.2.1 else s2.2.1 0 u) = some n
        rw [if_neg (fun q => eu q.2)]
        exact e1
      · rw [a0]
        exact (sI_nk (by decide)).trans g1
      · rw [show txF f c8 e z (105 + 2 * u + 1) = f (105 + 2 * u + 1) from txF_o (by omega) (by omega) (by omega) (by omega)]
        exact (sI_nk (by decide)).trans g2
      · rw [show txF f c8 e z (133 + 96 * u + k) = f (133 + 96 * u + k) from txF_o (by omega) (by omega) (by omega) (by omega), ← q4 k hk]
        exact congrFun (sI_nr (fun q => absurd (congrArg Prod.fst q) (by show ¬ 35 = 11; decide))) k
  · have hq2 : (if 0 = 0 ∧ u = c8 then some s2.2.2.2.1 else s2.2.1 0 u) = some n := hq
    by_cases eu : u = c8
    · rw [if_pos ⟨rfl, eu⟩] at hq2
      cases hq2
      exact Nat.lt_succ_self _
    · rw [if_neg (fun q => eu q.2)] at hq2
      exact hr u hu n hq2
theorem TP.z {s t : Sn} {tp : Fl} {n : Nat} (h : TP s tp n) (h21 : t.1 (21, 0, 0) 1 = 0) (h22 : t.1 (22, 0, 0) = s.1 (22, 0, 0)) : TP t tp 0 := ⟨h21, fun k hk => by rw [h22]; exact h.2 k hk⟩
/-- what the class's text leaves -/
theorem CT_of {s t : Sn} {f tp cf wf : Fl} {te : Nat → Bool} {c c8 n : Nat} {y : Int32} (hn : n ≤ 96) (h : RVL s 0 f c c8) (hG : GF f c c8) (hT : TP s tp n) (hq : CT s (txR tp n cf wf te) c8 y t) : y = ttX (txR tp n cf wf te) c8 ∧ RVL t 0 (txG f (txR tp n cf wf te) c8) c (txC (txR tp n cf wf te) c8) ∧ TP t tp 0 ∧ Kp [100, 20, 21, 23, 24, 36] [0] s t := by
  obtain ⟨ey, q1, q2⟩ := hq
  refine ⟨ey, ?_⟩
  unfold txG txC
  by_cases hR : (txR tp n cf wf te).1 = true
  · obtain ⟨he, hz, -, -⟩ := txR_V hn hR
    obtain ⟨s2, ⟨hC, -, -, hF⟩, et⟩ := q2 hR
    have hK : Kp [20, 21, 23, 24, 36] [] s (sI (mkL s2 (nI (txR tp n cf wf te).2.2.1) (nI (za (txR tp n cf wf te).2.2.2)) (zc (txR tp n cf wf te).2.2.2)) (21, 0, 0) 1 0) := Kp.si ((mkL_kp hF hz).wd (by decide) (by decide)) (by decide)
    have e22 := hK.g (a := 22) (i := 0) (j := 0) (by decide) (by decide)
    by_cases h14 : c8 = 14
    · rw [if_pos h14] at et
      subst et
      rw [if_neg (fun q => q.2 h14), if_neg (fun q => q.2 h14)]
      exact ⟨RVL.kp (by decide) h hK (by decide) (by decide) (by decide) (by decide), hT.z sI_eq e22, hK.wd (by decide) (by decide)⟩
    · rw [if_neg h14] at et
      subst et
      rw [if_pos ⟨hR, h14⟩, if_pos ⟨hR, h14⟩]
      have h8 := hG.1.1.2.2.2.1
      refine ⟨h.tx hG (by omega) he hz hC hF, hT.z ?_ ?_, ?_⟩
      · rw [adL_o (by decide)]; exact sI_eq
      · rw [adL_o (by decide)]; exact e22
      · exact Kp.si (Kp.sw (hK.wd (by decide) (by decide)) (by decide)) (by decide)
  · have hR : (txR tp n cf wf te).1 = false := by
      cases e : (txR tp n cf wf te).1
      · rfl
      · exact absurd e hR
    obtain ⟨t0, hF, et⟩ := q1 hR
    subst et
    have hK : Kp [20, 21, 23, 24] [] s (sI t0 (21, 0, 0) 1 0) := Kp.si (hF.kp (by decide)) (by decide)
    have nn : ¬ ((txR tp n cf wf te).1 = true ∧ ¬ c8 = 14) := fun q => by rw [hR] at q; exact absurd q.1 (by decide)
    rw [if_neg nn, if_neg nn]
    exact ⟨RVL.kp (by decide) h hK (by decide) (by decide) (by decide) (by decide), hT.z sI_eq (hK.g (a := 22) (i := 0) (j := 0) (by decide) (by decide)), hK.wd (by decide) (by decide)⟩
