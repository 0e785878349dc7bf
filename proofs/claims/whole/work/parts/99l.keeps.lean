/-! THE PURE PART, 92: what always holds of sheets, slots, tape: every call keeps it -/
theorem SQ.sh {so si : Fl} {x y n : Int32} (h : SQ so si) : SQ (shS so x y n) (shI si x y n) := by
  unfold shS shI
  by_cases o : shO x y n ∧ shP y n
  · rw [if_pos o, if_pos o]
    obtain ⟨a, ha, rfl⟩ := sht o.1.1
    rw [nI_clamp (by omega)]
    intro b hb
    by_cases e : b = a
    · subst e
      rw [upd_eq, upd_eq]
      refine ⟨?_, ?_⟩
      · by_cases h0 : y < 0
        · exact Or.inl ((y_m1 o.1.2.1).mp h0)
        · right
          obtain ⟨k, hk, rfl⟩ := nI_of h0
          have := (nI_leI (b := 1) hk (by decide)).mp o.1.2.1.2
          rcases (by omega : k = 0 ∨ k = 1) with e | e <;> subst e
          · exact Or.inl rfl
          · exact Or.inr rfl
      · unfold shV
        by_cases h0 : y < 0
        · rw [if_pos h0]; exact ⟨0, by omega, rfl⟩
        · rw [if_neg h0]
          have h1 : 0 ≤ n := o.2.elim (fun q => absurd q h0) id
          have h2 : n ≤ 24 := o.1.2.2.elim (fun q => absurd q h0) id
          obtain ⟨k, hk, e⟩ := nat60 (b := 24) (by decide) ⟨h1, h2⟩
          exact ⟨k, hk, e⟩
    · rw [upd_ne e, upd_ne e]
      exact h b hb
  · rw [if_neg o, if_neg o]
    exact h
theorem CQ.sh {ce : Fl} {x y n : Int32} (h : CQ ce) : CQ (shC ce x y n) := by
  unfold shC
  split
  · intro k hk
    unfold clr
    split
    · exact Or.inr ⟨by decide, by decide⟩
    · exact h k hk
  · exact h
theorem i16_b (v : Int32) : -99999 ≤ i16 v ∧ i16 v ≤ 99999 := by
  unfold i16
  rw [Int32.le_iff_toInt_le, Int32.le_iff_toInt_le, Int16.toInt_toInt32]
  have h1 := Int16.toInt_lt v.toInt16
  have h2 := Int16.le_toInt v.toInt16
  have e1 : (-99999 : Int32).toInt = -99999 := by decide
  have e2 : (99999 : Int32).toInt = 99999 := by decide
  rw [e1, e2]
  omega
theorem CQ.mk {so si ce : Fl} {x p v : Int32} (hQ : SQ so si) (h : CQ ce) : CQ (mkC so si ce x p v) := by
  unfold mkC
  by_cases o : mkA so si x p v = 1
  · rw [if_pos o]
    unfold mkA at o
    by_cases hx : 0 ≤ x ∧ x ≤ 3
    · rw [if_pos hx] at o
      obtain ⟨a, ha, rfl⟩ := sht hx
      rw [nI_clamp (by omega)] at o ⊢
      have hs := (hQ a ha).1
      intro k hk
      by_cases e : k = 24 * a + p.toNatClampNeg
      · rw [e, upd_eq]
        unfold mkG at o
        by_cases o1 : so a < 0
        · rw [if_pos o1] at o; exact absurd o (by decide)
        · rw [if_neg o1] at o
          by_cases o2 : ¬ (0 ≤ p ∧ p ≤ si a - 1)
          · rw [if_pos o2] at o; exact absurd o (by decide)
          · rw [if_neg o2] at o
            by_cases o3 : so a = 0 ∧ v = -1000000005
            · rw [if_pos o3] at o; exact absurd o (by decide)
            · rw [if_neg o3] at o
              by_cases o4 : so a = 1 ∧ ¬ v = -1000000005 ∧ ¬ (-99999 ≤ v ∧ v ≤ 99999)
              · rw [if_pos o4] at o; exact absurd o (by decide)
              · unfold mkV
                by_cases o5 : so a = 0
                · rw [if_pos o5]; exact Or.inr (i16_b v)
                · rw [if_neg o5]
                  have o6 : so a = 1 := by
                    rcases hs with q | q | q
                    · rw [q] at o1; exact absurd (by decide) o1
                    · exact absurd q o5
                    · exact q
                  by_cases o7 : v = -1000000005
                  · exact Or.inl o7
                  · exact Or.inr (Decidable.of_not_not (fun z => o4 ⟨o6, o7, z⟩))
      · rw [upd_ne e]
        exact h k hk
    · rw [if_neg hx] at o
      exact absurd o (by decide)
  · rw [if_neg o]
    exact h
theorem CQ.cy {so si ce : Fl} {x p y q m : Int32} (hQ : SQ so si) (h : CQ ce) : CQ (cyC so si ce x p y q m) := by
  unfold cyC
  split
  · rename_i o
    obtain ⟨a, ha, rfl⟩ := sht o.1.1
    obtain ⟨b, hb, rfl⟩ := sht o.1.2
    have o2 := o.2.2.2
    rw [nI_clamp (by omega), nI_clamp (by omega)] at o2 ⊢
    obtain ⟨n, hn, e1⟩ := (hQ a ha).2
    obtain ⟨n2, hn2, e2⟩ := (hQ b hb).2
    rw [e1, e2] at o2
    obtain ⟨P, Q, N, rfl, rfl, rfl, hP, hQ2⟩ := cyK_n hn hn2 o2
    rw [nI_clamp (by omega), nI_clamp (by omega), nI_clamp (by omega)]
    intro k hk
    unfold cpk
    by_cases e : 24 * b + Q ≤ k ∧ k < 24 * b + Q + N
    · rw [if_pos e]; exact h _ (by omega)
    · rw [if_neg e]; exact h k hk
  · exact h
theorem HQ.la {f so si ce : Fl} {T : F4} {c : Nat} {x y k : Int32} (hQ : SQ so si) (h : HQ T) : HQ (laT f so si ce T c x y k) := by
  unfold laT
  split
  · rename_i o
    obtain ⟨a, ha, rfl⟩ := slt o.1.1
    rw [nI_clamp (by omega)]
    intro b hb h2
    dsimp only at h2 ⊢
    by_cases e : b = a
    · subst e
      rw [upd_eq] at h2 ⊢
      subst h2
      rw [if_neg (by decide), if_pos rfl]
      obtain ⟨z, hz, rfl⟩ := sht (o.1.2.2.2 rfl)
      rw [nI_clamp (by omega)]
      exact (hQ z hz).2
    · rw [upd_ne e] at h2 ⊢
      exact h b hb h2
  · exact h
theorem fdN_le {n : Nat} (h : n ≤ 96) : fdN n ≤ 96 := by
  unfold fdN
  split <;> omega
theorem trN_le {n : Nat} {x : Int32} (h : n ≤ 96) : trN n x ≤ 96 := by
  unfold trN
  split
  · rename_i o
    obtain ⟨k, hk, rfl⟩ := nat60 (by omega) o
    rw [nI_clamp (by omega)]
    omega
  · exact h
theorem teK_le {k : Nat} (h : k ≤ 60) : teK k ≤ 60 := by
  unfold teK
  split <;> omega
/-- a row that a river may be: so many logs, so many texts, the week -/
abbrev Rv : Type := Fl × Nat × Nat × Nat
def GR (ρ : Rv) : Prop := GF ρ.1 ρ.2.1 ρ.2.2.1 ∧ ρ.1 2 = nI ρ.2.2.2 ∧ ρ.2.2.2 ≤ 9999
theorem wkF_2 {f : Fl} {wk : Nat} {x : Int32} (h2 : f 2 = nI wk) (hw : wk ≤ 9999) : ∃ w, wkF f wk x 2 = nI w ∧ w ≤ 9999 := by
  unfold wkF
  split
  · refine ⟨_, weks_2 _ f wk h2, ?_⟩
    omega
  · exact ⟨wk, h2, hw⟩
theorem GF.wk {f : Fl} {c c8 wk : Nat} {x : Int32} (h : GF f c c8) : GF (wkF f wk x) c c8 := by
  unfold wkF
  split
  · exact h.weks _
  · exact h
/-- the week is left alone -/
theorem cmf_2 {f : Fl} {c : Nat} {k l m : Int32} : cmf f c k l m 2 = f 2 := cmf_oth (by omega) (by omega)
theorem lgF_2 {f : Fl} {c : Nat} {k l m : Int32} : lgF f c k l m 2 = f 2 := by
  unfold lgF
  split
  · exact cmf_2
  · rfl
theorem dls_2 : ∀ (n c : Nat) (f : Fl), dls n c f 2 = f 2
  | 0, _, _ => rfl
  | n + 1, c, f => by
    show dls n (c + 1) (drw f c) 2 = _
    rw [dls_2 n (c + 1) (drw f c)]
    exact cmf_2.trans (upd_ne (by decide))
theorem dlF_2 {f : Fl} {c : Nat} {x : Int32} : dlF f c x 2 = f 2 := by
  unfold dlF
  split
  · exact dls_2 _ _ _
  · rfl
theorem tuF_2 {f : Fl} {c : Nat} {x v : Int32} : tuF f c x v 2 = f 2 := by
  unfold tuF
  split
  · exact upd_ne (by omega)
  · rfl
theorem stF_2 {f : Fl} {c : Nat} {x w v : Int32} : stF f c x w v 2 = f 2 := by
  unfold stF
  split
  · exact upd_ne (by omega)
  · rfl
theorem lyF_2 {f : Fl} {c : Nat} {x y : Int32} : lyF f c x y 2 = f 2 := by
  unfold lyF
  split
  · exact upd_ne (by omega)
  · rfl
theorem rhF_2 {f : Fl} {x w v : Int32} : rhF f x w v 2 = f 2 := by
  unfold rhF
  split
  · exact upd_ne (by omega)
  · rfl
theorem ruF_2 {f : Fl} {w v : Int32} : ruF f w v 2 = f 2 := by
  unfold ruF
  split
  · exact upd_ne (by decide)
  · split
    · exact upd_ne (by decide)
    · split
      · exact upd_ne (by decide)
      · rfl
theorem wdF_2 {f : Fl} {n : Nat} {x : Int32} : wdF f n x 2 = f 2 := by
  unfold wdF
  split
  · unfold ltf
    rw [upd_ne (by decide), upd_ne (by omega)]
  · rfl
theorem por_2 {f ce : Fl} {a n : Nat} : ∀ r, (por f ce a n r).1 2 = f 2
  | 0 => rfl
  | r + 1 => by
    by_cases e : r < n ∧ ¬ ce (24 * a + r) = -1000000005
    · rw [por_y e]
      exact (upd_ne (by omega)).trans (por_2 r)
    · rw [por_n e]
      exact por_2 r
theorem poF_2 {f so si ce : Fl} {x : Int32} : poF f so si ce x 2 = f 2 := by
  unfold poF
  split
  · split
    · rfl
    · exact por_2 12
  · rfl
theorem txG_2 {f : Fl} {R : Bool × Nat × Nat × PZ} {c8 : Nat} : txG f R c8 2 = f 2 := by
  unfold txG
  split
  · exact txF_o (by decide) (by omega) (by omega) (by omega)
  · rfl
