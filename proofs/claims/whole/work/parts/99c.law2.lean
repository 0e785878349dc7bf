/-! THE PURE PART, 83: a state with one law more -/
section
theorem lX7_nm {s : Sn} {key p : Int32} {c : Nat} : lX7 s key p c = nm (mkL s key p c) := by
  obtain ⟨n, hn⟩ : ∃ n, s.2.2.2.1 = n := ⟨_, rfl⟩
  have hq1 : qmk (nm s).2.2.2.1 = (34, n, 0) := by rw [← hn]; exact (qmk_law s.2.2.2.1).1
  have hq2 : qmk (lX2 s key p).2.2.2.1 = (35, n, 0) := by rw [← hn]; show qmk (135 + 3 * s.2.2.2.1 + 1) = _; rw [show 135 + 3 * s.2.2.2.1 + 1 = 136 + 3 * s.2.2.2.1 by omega]; exact (qmk_law s.2.2.2.1).2.1
  have hq3 : qmk (lX5 s key p c).2.2.2.1 = (36, n, 0) := by rw [← hn]; show qmk (135 + 3 * s.2.2.2.1 + 1 + 1) = _; rw [show 135 + 3 * s.2.2.2.1 + 1 + 1 = 137 + 3 * s.2.2.2.1 by omega]; exact (qmk_law s.2.2.2.1).2.2
  have n1 : ((35, n, 0) : Rf) ≠ (34, n, 0) := fun z => absurd (congrArg Prod.fst z) (by show ¬ 35 = 34; omega)
  have n2 : ((36, n, 0) : Rf) ≠ (34, n, 0) := fun z => absurd (congrArg Prod.fst z) (by show ¬ 36 = 34; omega)
  have n3 : ((36, n, 0) : Rf) ≠ (35, n, 0) := fun z => absurd (congrArg Prod.fst z) (by show ¬ 36 = 35; omega)
  have n4 : ((23, 0, 0) : Rf) ≠ (34, n, 0) := fun z => absurd (congrArg Prod.fst z) (by show ¬ 23 = 34; omega)
  have n5 : ((23, 0, 0) : Rf) ≠ (35, n, 0) := fun z => absurd (congrArg Prod.fst z) (by show ¬ 23 = 35; omega)
  have g1 : ∀ z j, (lX2 s key p).1 z j = if z = (34, n, 0) then (if j = 1 then p else if j = 0 then key else 0) else s.1 z j := fun z j => by
    show (if z = (34, s.2.2.2.1, 0) ∧ j = 1 then p else if z = (34, s.2.2.2.1, 0) ∧ j = 0 then key else if z = qmk (nm s).2.2.2.1 then 0 else s.1 z j) = _
    rw [hq1, hn]
    by_cases e : z = (34, n, 0)
    · by_cases j1 : j = 1
      · rw [if_pos ⟨e, j1⟩, if_pos e, if_pos j1]
      · rw [if_neg (fun q => j1 q.2)]
        by_cases j0 : j = 0
        · rw [if_pos ⟨e, j0⟩, if_pos e, if_neg j1, if_pos j0]
        · rw [if_neg (fun q => j0 q.2), if_pos e, if_pos e, if_neg j1, if_neg j0]
    · rw [if_neg (fun q => e q.1), if_neg (fun q => e q.1), if_neg e, if_neg e]
  have g4 : ∀ z j, (lX4 s key p c).1 z j = if z = (35, n, 0) then 0 else (lX2 s key p).1 z j := fun z j => by
    show (if z = qmk (lX2 s key p).2.2.2.1 then 0 else (lX2 s key p).1 z j) = _
    rw [hq2]
  refine Prod.ext ?_ (Prod.ext ?_ (Prod.ext ?_ (Prod.ext ?_ ?_)))
  · funext z j
    show (if z = qmk (lX5 s key p c).2.2.2.1 then 0 else if z = (35, s.2.2.2.1, 0) then va_cpy ((lX4 s key p c).1 (23, 0, 0)) ((lX4 s key p c).1 (35, s.2.2.2.1, 0)) 0 0 c j else (lX4 s key p c).1 z j) = if z = (34, s.2.2.2.1, 0) then (if j = 0 then key else if j = 1 then p else 0) else if z = (35, s.2.2.2.1, 0) then (if j < c then s.1 (23, 0, 0) j else 0) else if z = (36, s.2.2.2.1, 0) then 0 else s.1 z j
    rw [hq3, hn]
    by_cases e36 : z = (36, n, 0)
    · rw [if_pos e36, e36, if_neg n2, if_neg n3, if_pos rfl]
    · rw [if_neg e36]
      by_cases e35 : z = (35, n, 0)
      · rw [if_pos e35, e35, if_neg n1, if_pos rfl]
        unfold va_cpy
        by_cases hj : j < c
        · rw [if_pos ⟨Nat.zero_le _, by omega⟩, if_pos hj, Nat.zero_add, Nat.sub_zero, g4, if_neg n5, g1, if_neg n4]
        · rw [if_neg (fun q => hj (by omega)), if_neg hj, g4, if_pos rfl]
      · rw [if_neg e35, g4, if_neg e35, g1]
        by_cases e34 : z = (34, n, 0)
        · rw [if_pos e34, if_pos e34]
          by_cases j0 : j = 0
          · rw [if_neg (show ¬ j = 1 by omega), if_pos j0, if_pos j0]
          · by_cases j1 : j = 1
            · rw [if_pos j1, if_neg j0, if_pos j1]
            · rw [if_neg j1, if_neg j0, if_neg j0, if_neg j1]
        · rw [if_neg e34, if_neg e34, if_neg e35, if_neg e36]
  · funext z j
    show (if z = (34, s.2.2.2.1, 0) ∧ j = 3 then some (36, s.2.2.2.1, 0) else if z = qmk (lX5 s key p c).2.2.2.1 then none else if z = (34, s.2.2.2.1, 0) ∧ j = 2 then some (35, s.2.2.2.1, 0) else if z = qmk (lX2 s key p).2.2.2.1 then none else if z = qmk (nm s).2.2.2.1 then none else rfs s.2.1 z j) = rfs s.2.1 z j
    rw [hq3, hq2, hq1, hn]
    by_cases e34 : z = (34, n, 0)
    · subst e34
      by_cases j3 : j = 3
      · rw [if_pos ⟨rfl, j3⟩, j3]; rfl
      · rw [if_neg (fun q => j3 q.2), if_neg (Ne.symm n2)]
        by_cases j2 : j = 2
        · rw [if_pos ⟨rfl, j2⟩, j2]; rfl
        · rw [if_neg (fun q => j2 q.2), if_neg (Ne.symm n1), if_pos rfl]
          show none = (match j with | 2 => some ((35, n, 0) : Rf) | 3 => some (36, n, 0) | _ => none)
          split
          · exact absurd rfl j2
          · exact absurd rfl j3
          · rfl
    · rw [if_neg (fun q => e34 q.1)]
      by_cases e36 : z = (36, n, 0)
      · rw [if_pos e36, e36]; rfl
      · rw [if_neg e36, if_neg (fun q => e34 q.1)]
        by_cases e35 : z = (35, n, 0)
        · rw [if_pos e35, e35]; rfl
        · rw [if_neg e35, if_neg e34]
  · funext z
    show (if z = qmk (lX5 s key p c).2.2.2.1 then max 1 c else if z = qmk (lX2 s key p).2.2.2.1 then c else if z = qmk (nm s).2.2.2.1 then 0 else lnf s.2.2.1 z) = lnf (s.2.2.1.1, fun a => if a = s.2.2.2.1 then c else s.2.2.1.2 a) z
    rw [hq3, hq2, hq1, hn]
    by_cases e36 : z = (36, n, 0)
    · rw [if_pos e36, e36]
      show max 1 c = if (0 : Nat) = 0 then max 1 (if n = n then c else s.2.2.1.2 n) else 0
      rw [if_pos rfl, if_pos rfl]
    · rw [if_neg e36]
      by_cases e35 : z = (35, n, 0)
      · rw [if_pos e35, e35]
        show c = if (0 : Nat) = 0 then (if n = n then c else s.2.2.1.2 n) else 0
        rw [if_pos rfl, if_pos rfl]
      · rw [if_neg e35]
        by_cases e34 : z = (34, n, 0)
        · rw [if_pos e34, e34]; rfl
        · rw [if_neg e34]
          obtain ⟨t, a, b⟩ := z
          by_cases t35 : t = 35
          · subst t35
            show (if b = 0 then s.2.2.1.2 a else 0) = if b = 0 then (if a = n then c else s.2.2.1.2 a) else 0
            by_cases hb : b = 0
            · rw [if_pos hb, if_pos hb, if_neg (fun q => e35 (by rw [q, hb]))]
            · rw [if_neg hb, if_neg hb]
          · by_cases t36 : t = 36
            · subst t36
              show (if b = 0 then max 1 (s.2.2.1.2 a) else 0) = if b = 0 then max 1 (if a = n then c else s.2.2.1.2 a) else 0
              by_cases hb : b = 0
              · rw [if_pos hb, if_pos hb, if_neg (fun q => e36 (by rw [q, hb]))]
              · rw [if_neg hb, if_neg hb]
            · unfold lnf
              split <;> first | rfl | (rename_i hh; exact absurd hh t35) | (rename_i hh; exact absurd hh t36)
  · show 135 + 3 * s.2.2.2.1 + 1 + 1 + 1 = 135 + 3 * (s.2.2.2.1 + 1)
    omega
  · rfl
end
