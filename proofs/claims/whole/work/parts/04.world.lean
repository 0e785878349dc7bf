/-! SOUNDNESS, 2: the world: how the named cells lie in the heap, what was there before -/
def tysO (cs : Nat → ClassId) : List (ClassId × FieldType) := (List.range 8).map fun j => (cs (10 + j), aty (10 + j))
theorem tysO_at {cs : Nat → ClassId} {k : Nat} (h1 : 10 ≤ k) (h2 : k < 18) : (tysO cs)[k - 10]? = some (cs k, aty k) := by
  unfold tysO
  rw [List.getElem?_map, List.getElem?_range (by omega)]
  show some (cs (10 + (k - 10)), aty (10 + (k - 10))) = _
  rw [show 10 + (k - 10) = k by omega]
def ent (β : Nat) (cs : Nat → ClassId) (ε : Rf → Value) (σ : St) (r : Rf) : va_E :=
  if kd r.1 < 9 then .inr (kd r.1, (List.range (nFl (kd r.1))).map fun q => cnc β ε (σ.1 r q))
  else if kd r.1 < 14 then .inl (cs (kd r.1), σ.2.1 r, .inl fun j => aI (σ.1 r j))
  else .inl (cs (kd r.1), σ.2.1 r, .inr (.inr (.inr (.inr fun j => (aR (σ.1 r j)).map fun q => β + qoff q))))
theorem ent_obj {β : Nat} {cs : Nat → ClassId} {ε : Rf → Value} {σ : St} {r : Rf} {ci : Nat} (h : kd r.1 = ci) (h9 : ci < 9) : ent β cs ε σ r = .inr (ci, (List.range (nFl ci)).map fun q => cnc β ε (σ.1 r q)) := by
  subst h; unfold ent; rw [if_pos h9]
theorem ent_int {β : Nat} {cs : Nat → ClassId} {ε : Rf → Value} {σ : St} {r : Rf} {k : Nat} (h : kd r.1 = k) (h9 : 9 ≤ k) (h14 : k < 14) : ent β cs ε σ r = .inl (cs k, σ.2.1 r, .inl fun j => aI (σ.1 r j)) := by
  subst h; unfold ent; rw [if_neg (by omega), if_pos h14]
theorem ent_ref {β : Nat} {cs : Nat → ClassId} {ε : Rf → Value} {σ : St} {r : Rf} {k : Nat} (h : kd r.1 = k) (h14 : 14 ≤ k) : ent β cs ε σ r = .inl (cs k, σ.2.1 r, .inr (.inr (.inr (.inr fun j => (aR (σ.1 r j)).map fun q => β + qoff q)))) := by
  subst h; unfold ent; rw [if_neg (by omega), if_neg (by omega)]
theorem ent_cong {β : Nat} {cs : Nat → ClassId} {ε : Rf → Value} {σ τ : St} {r : Rf} (h1 : τ.1 r = σ.1 r) (h2 : τ.2.1 r = σ.2.1 r) : ent β cs ε τ r = ent β cs ε σ r := by
  unfold ent; rw [h1, h2]
def wsO (β : Nat) (cs : Nat → ClassId) (ε : Rf → Value) (σ : St) : va_W := (List.range σ.2.2.1).map fun n => (β + n, ent β cs ε σ (qmk n))
theorem okr_spec {σ : St} {r : Rf} (h : okr σ r = true) : 5 ≤ r.1 ∧ qoff r < σ.2.2.1 ∧ qmk (qoff r) = r := by
  unfold okr at h
  simp only [Bool.and_eq_true, decide_eq_true_eq] at h
  exact h
theorem wsO_at {β : Nat} {cs : Nat → ClassId} {ε : Rf → Value} {σ : St} {r : Rf} (h : okr σ r = true) : (wsO β cs ε σ)[qoff r]? = some (β + qoff r, ent β cs ε σ r) := by
  obtain ⟨h1, h2, h3⟩ := okr_spec h
  unfold wsO
  rw [List.getElem?_map, List.getElem?_range h2]
  show some (β + qoff r, ent β cs ε σ (qmk (qoff r))) = _
  rw [h3]
theorem wsO_ix {β : Nat} {cs : Nat → ClassId} {ε : Rf → Value} {σ : St} {k : Nat} {q : Nat × va_E} (h : (wsO β cs ε σ)[k]? = some q) : k < σ.2.2.1 ∧ q = (β + k, ent β cs ε σ (qmk k)) := by
  unfold wsO at h
  rw [List.getElem?_map] at h
  by_cases hk : k < σ.2.2.1
  · rw [List.getElem?_range hk] at h
    exact ⟨hk, (Option.some.inj h).symm⟩
  · rw [List.getElem?_eq_none (by simpa using hk)] at h
    cases h
def Ax (β : Nat) : Nat → Prop := fun q => β ≤ q
theorem wsO_D {β : Nat} {cs : Nat → ClassId} {ε : Rf → Value} {σ : St} : va_D (Ax β) (wsO β cs ε σ) := by
  refine ⟨fun i j p q hi hj e => ?_, fun k q hq => ?_⟩
  · have h1 := (wsO_ix hi).2
    have h2 := (wsO_ix hj).2
    subst h1; subst h2
    have : β + i = β + j := e
    omega
  · have h1 := (wsO_ix hq).2
    subst h1
    exact Nat.le_add_right β k
theorem wsO_set {β : Nat} {cs : Nat → ClassId} {ε : Rf → Value} {σ τ : St} {r : Rf} (h : okr σ r = true) (hc : τ.2.2.1 = σ.2.2.1) (h1 : ∀ z, z ≠ r → τ.1 z = σ.1 z ∧ τ.2.1 z = σ.2.1 z) : (wsO β cs ε σ).set (qoff r) (β + qoff r, ent β cs ε τ r) = wsO β cs ε τ := by
  obtain ⟨g1, g2, g3⟩ := okr_spec h
  apply List.ext_getElem?
  intro n
  rw [List.getElem?_set]
  unfold wsO
  rw [hc, List.getElem?_map, List.getElem?_map, List.length_map, List.length_range]
  by_cases hn : qoff r = n
  · subst hn
    rw [if_pos rfl, if_pos g2, List.getElem?_range g2]
    show _ = some (β + qoff r, ent β cs ε τ (qmk (qoff r)))
    rw [g3]
  · rw [if_neg hn]
    by_cases hl : n < σ.2.2.1
    · rw [List.getElem?_range hl]
      show some (β + n, ent β cs ε σ (qmk n)) = some (β + n, ent β cs ε τ (qmk n))
      have hz : qmk n ≠ r := fun e => hn (by rw [← e, qoff_mk])
      rw [ent_cong (h1 _ hz).1 (h1 _ hz).2]
    · rw [List.getElem?_eq_none (by simpa using hl)]
      rfl
theorem wsO_alc {β : Nat} {cs : Nat → ClassId} {ε : Rf → Value} {σ : St} {f : Nat → Av} {ln sl : Nat} : wsO β cs ε σ ++ [(β + σ.2.2.1, ent β cs ε (alc σ f ln sl) (qmk σ.2.2.1))] = wsO β cs ε (alc σ f ln sl) := by
  unfold wsO
  show _ = (List.range (σ.2.2.1 + 1)).map _
  rw [List.range_succ, List.map_append]
  congr 1
  apply List.map_congr_left
  intro n hn
  have hn : n < σ.2.2.1 := List.mem_range.mp hn
  have hz : qmk n ≠ qmk σ.2.2.1 := fun e => by
    have := congrArg qoff e
    rw [qoff_mk, qoff_mk] at this
    omega
  rw [ent_cong]
  · show σ.1 (qmk n) = (if qmk n = qmk σ.2.2.1 then f else σ.1 (qmk n))
    rw [if_neg hz]
  · show σ.2.1 (qmk n) = (if qmk n = qmk σ.2.2.1 then ln else σ.2.1 (qmk n))
    rw [if_neg hz]
/-- what was there before: the script (where, how long, what), ABOVE, the texts and their bytes, the formatter -/
abbrev Xp : Type := (Nat × Nat × (Nat → Int32)) × Nat × (Nat → Nat) × (Nat → Nat) × Value
def xE (X : Xp) : Rf → Value := fun r => if r = (0, 0, 0) then .ref X.1.1 else if r = (1, 0, 0) then .ref X.2.1 else if r.1 = 2 ∧ r.2.1 < 6 ∧ r.2.2 = 0 then .ref (X.2.2.1 r.2.1) else if r.1 = 3 ∧ r.2.1 < 6 ∧ r.2.2 = 0 then .ref (X.2.2.2.1 r.2.1) else if r = (4, 0, 0) then X.2.2.2.2 else .null
def slen : List Nat := [5, 3, 4, 3, 2, 2]
def sbyt : List (List Int32) := [[100, 114, 105, 102, 116], [102, 101, 101], [102, 105, 110, 101], [102, 109, 114], [115, 119], [108, 109]]
def sabv : List Int32 := [-1, 0, 0, 1, 2, 0]
def xH (xs : Nat → Int32) : Hp := fun r k => if r.1 = 0 then vI (xs k) else if r.1 = 1 then vI (sabv.getD k 0) else if r.1 = 2 then (if k = 0 then vI 0 else vR 3 r.2.1 0) else if r.1 = 3 then vI ((sbyt.getD r.2.1 []).getD k 0) else vN
def xL (L : Nat) : Rf → Nat := fun r => if r.1 = 0 then L else if r.1 = 1 then 6 else if r.1 = 3 then slen.getD r.2.1 0 else 0
def exO (X : Xp) (σ : St) : Prop := ∀ r : Rf, r.1 < 5 → σ.1 r = xH X.1.2.2 r ∧ σ.2.1 r = xL X.1.2.1 r
def gTb : List Jvm.Cond := lw_tbl.filter goodWord
theorem okw_in {w : Jvm.Cond} (h : okw w = true) : w ∈ gTb := by
  unfold okw at h
  simp only [Bool.and_eq_true, decide_eq_true_eq] at h
  exact List.mem_filter.mpr h
theorem gTb_good {w : Jvm.Cond} (h : w ∈ gTb) : (w.onTables && w.keeps) = true ∨ ∃ ty, w = .arrayClass ty := good_of_word (List.mem_filter.mp h).2
def Cx (β : Nat) (D : va_G) (cs : Nat → ClassId) (X : Xp) (s : State) : Prop :=
  va_K D vwCl (tysO cs) s ∧ va_X X.1.1 X.1.2.1 X.1.2.2 s s.heap ∧ X.1.1 < β ∧ β ≤ s.heap.size ∧
  va_Z "LogLetters" "ABOVE" "[I" (.ref X.2.1) (Ax β) s s.heap ∧ va_T .int X.2.1 6 (fun j => .int (sabv.getD j 0)) (Ax β) s s.heap ∧
  va_Z "java/lang/String" "COMPACT_STRINGS" "Z" (.int 1) (Ax β) s s.heap ∧ va_Z "jdk/internal/util/Preconditions" "SIOOBE_FORMATTER" "Ljava/util/function/BiFunction;" X.2.2.2.2 (Ax β) s s.heap ∧
  vk_S 6 slen sbyt X.2.2.1 X.2.2.2.1 (Ax β) s s.heap ∧ (∀ i, i < 6 → vk_R RX2 (strs.getD i (0, "")).1 (strs.getD i (0, "")).2 (X.2.2.1 i) s) ∧
  (∀ a i x h, Jvm.Cond.methodLinkNest a i x h ∈ lw_tbl → va_Nw (.methodLinkNest a i x h) s) ∧ (∀ a i b n d h, Jvm.Cond.fieldLinkNest a i b n d h ∈ lw_tbl → va_Nw (.fieldLinkNest a i b n d h) s) ∧
  (∀ C, Jvm.Cond.arrayOver (.object C) ∈ lw_tbl → va_AO C s) ∧ (X.2.2.2.2 = .null ∨ ∃ a, X.2.2.2.2 = .ref a)
theorem Cx.next {β : Nat} {D : va_G} {cs : Nat → ClassId} {X : Xp} {s U : State} {H : Heap} {locs : List Loc} (h : Cx β D cs X s) (hS : va_S (Ax β) s.heap H locs) (hU : U.heap = H) (hW : s.WarmedH U.vm) : Cx β D cs X U := by
  obtain ⟨h1, h2, h3, h4, h5, h6, h7, h8, h9, h10, h11, h12, h13, h14⟩ := h
  subst hU
  have hv := hW.alike
  exact ⟨h1.moved hv, (h2.moved hv).kept (hS.2.1 _ (Nat.lt_of_lt_of_le h3 h4) (fun z => Nat.not_le.mpr h3 z)), h3, Nat.le_trans h4 hS.1, (h5.moved hv).kept hS.2.1, (h6.moved hv).kept hS.2.1, (h7.moved hv).kept hS.2.1, (h8.moved hv).kept hS.2.1, (h9.moved hv).kept hS.2.1, fun i hi => (h10 i hi).warm hW, fun a i x h hh => (h11 a i x h hh).warmM hW, fun a i b n d h hh => (h12 a i b n d h hh).warmF hW, fun C hh => (h13 C hh).moved hv, h14⟩
theorem Cx.blind {β : Nat} {D : va_G} {cs : Nat → ClassId} {X : Xp} {U : State} {g : JFrame} {mk : MethodId} {a : Array Value} (h : Cx β D cs X U) : Cx β D cs X (U.calling g mk a) := by
  obtain ⟨h1, h2, h3, h4, h5, h6, h7, h8, h9, h10, h11, h12, h13, h14⟩ := h
  have hv : U.vm.Alike (U.calling g mk a).vm := Vm.Alike.refl U.vm
  exact ⟨h1.moved hv, h2.moved hv, h3, h4, h5.moved hv, h6.moved hv, h7.moved hv, h8.moved hv, h9.moved hv, fun i hi => (h10 i hi).same rfl, fun a i x h hh => (h11 a i x h hh).same rfl rfl, fun a i b n d h hh => (h12 a i b n d h hh).same rfl rfl, fun C hh => (h13 C hh).moved hv, h14⟩
theorem xE_ok {X : Xp} (h : X.2.2.2.2 = .null ∨ ∃ a, X.2.2.2.2 = .ref a) : eok (xE X) := by
  intro r
  unfold xE
  split
  · exact Or.inr ⟨_, rfl⟩
  · split
    · exact Or.inr ⟨_, rfl⟩
    · split
      · exact Or.inr ⟨_, rfl⟩
      · split
        · exact Or.inr ⟨_, rfl⟩
        · split
          · exact h
          · exact Or.inl rfl
theorem cl_ok : (List.range 9).all (fun ci => match vwCl[ci]? with
  | some q => decide (q.2.2 = nFl ci) && (u_ws q.1 q.2.1 q.2.2).all (fun w => decide (w ∈ lw_tbl) && goodWord w)
  | none => false) = true := by decide +kernel
theorem cl_spec {ci : Nat} {C : String} {T : u_T} {N : Nat} (h : vwCl[ci]? = some (C, T, N)) (h9 : ci < 9) : N = nFl ci ∧ ∀ w ∈ u_ws C T N, w ∈ gTb := by
  have h1 := List.all_eq_true.mp cl_ok ci (List.mem_range.mpr h9)
  simp only [h] at h1
  simp only [Bool.and_eq_true, decide_eq_true_eq] at h1
  refine ⟨h1.1, fun w hw => ?_⟩
  have h2 := List.all_eq_true.mp h1.2 w hw
  simp only [Bool.and_eq_true, decide_eq_true_eq] at h2
  exact List.mem_filter.mpr h2
theorem findSome_mem {α γ : Type} {f : α → Option γ} {l : List α} {b : γ} (h : l.findSome? f = some b) : ∃ a, a ∈ l ∧ f a = some b := List.exists_of_findSome?_eq_some h
theorem fld_spec {own : String} {i ci q : Nat} (h : fld own i = some (ci, q)) : ∃ ref n d, okw (.fieldLink own i ref n d) = true ∧ ((ci = 20 ∧ q = 0 ∧ ref = "java/lang/String" ∧ n = "coder" ∧ d = "B") ∨ (ci = 20 ∧ q = 1 ∧ ref = "java/lang/String" ∧ n = "value" ∧ d = "[B") ∨ (ci < 9 ∧ ∃ (T : u_T) (N : Nat), vwCl[ci]? = some (ref, T, N) ∧ q < N ∧ (T q).1 = ref ∧ (T q).2.1 = n ∧ (T q).2.2.1 = d)) := by
  unfold fld at h
  split at h
  · rename_i ref n d ci' f' p hf
    replace h := is1 h
    obtain ⟨⟨h1, h2⟩, h⟩ := h
    cases h
    refine ⟨ref, n, d, tat_okw h1, ?_⟩
    rcases h2 with h2 | h2 | ⟨h9, h2⟩
    · exact Or.inl h2
    · exact Or.inr (Or.inl h2)
    · refine Or.inr (Or.inr ⟨h9, ?_⟩)
      cases hv : vwCl[ci]? with
      | none => rw [hv] at h2; cases h2
      | some z =>
        rw [hv] at h2
        obtain ⟨z1, z2, z3⟩ := z
        have h3 := of_decide_eq_true (Option.some.inj h2)
        obtain ⟨e1, e2, e3⟩ := h3
        simp only at e1
        subst e1
        exact ⟨z2, z3, rfl, e2, e3⟩
  · cases h
theorem nFl_pos : ∀ ci, ci < 9 → (vwCl[ci]?).isSome = true := by decide +kernel
theorem ty_ok : ∀ ci, ci < 9 → ∀ q, vwCl[ci]? = some q → (∀ k, k < q.2.2 → parseFieldDescriptor (q.2.1 k).2.2.1 = some (tyOf ci k)) ∧ ∀ a, a < q.2.2 → ∀ b, b < q.2.2 → a ≠ b → (q.2.1 a).2.1 ≠ (q.2.1 b).2.1 := by
  intro ci h q hq
  match ci, h with
  | 0, _ => cases hq; exact ⟨tyX0_ok, nmX0⟩
  | 1, _ => cases hq; exact ⟨tyX1_ok, nmX1⟩
  | 2, _ => cases hq; exact ⟨tyX2_ok, nmX2⟩
  | 3, _ => cases hq; exact ⟨tyX3_ok, nmX3⟩
  | 4, _ => cases hq; exact ⟨tyX4_ok, nmX4⟩
  | 5, _ => cases hq; exact ⟨tyX5_ok, nmX5⟩
  | 6, _ => cases hq; exact ⟨tyX6_ok, nmX6⟩
  | 7, _ => cases hq; exact ⟨tyX7_ok, nmX7⟩
  | 8, _ => cases hq; exact ⟨tyX8_ok, nmX8⟩
