/-! SOUNDNESS, 6: calls, returns, the whole -/
theorem exO_put {X : Xp} {σ : St} {r : Rf} {k : Nat} {v : Av} (h5 : 5 ≤ r.1) (h : exO X σ) : exO X (hput σ.1 r k v, σ.2) := by
  intro z hz
  have e : z ≠ r := fun e => by subst e; omega
  exact ⟨(hput_ne e).trans (h z hz).1, (h z hz).2⟩
theorem exO_new {X : Xp} {σ : St} {r : Rf} {f : Nat → Av} (h5 : 5 ≤ r.1) (h : exO X σ) : exO X (hnew σ.1 r f, σ.2) := by
  intro z hz
  have e : z ≠ r := fun e => by subst e; omega
  exact ⟨(hnew_ne e).trans (h z hz).1, (h z hz).2⟩
theorem exO_alc {X : Xp} {σ : St} {f : Nat → Av} {ln sl : Nat} (h : exO X σ) : exO X (alc σ f ln sl) := by
  intro z hz
  have e : z ≠ qmk σ.2.2.1 := fun e => by have := mk_tag σ.2.2.1; rw [← e] at this; omega
  refine ⟨(hnew_ne e).trans (h z hz).1, ?_⟩
  show (if z = qmk σ.2.2.1 then ln else σ.2.1 z) = _
  rw [if_neg e]
  exact (h z hz).2
def Gr (σ σ' : St) : Prop := σ.2.2.1 ≤ σ'.2.2.1 ∧ σ.2.2.2 ≤ σ'.2.2.2 ∧ ∀ X, exO X σ → exO X σ'
theorem Gr.rf {σ : St} : Gr σ σ := ⟨Nat.le_refl _, Nat.le_refl _, fun _ h => h⟩
theorem Gr.tr {a b c : St} (h1 : Gr a b) (h2 : Gr b c) : Gr a c := ⟨Nat.le_trans h1.1 h2.1, Nat.le_trans h1.2.1 h2.2.1, fun X h => h2.2.2 X (h1.2.2 X h)⟩
theorem Gr.put {σ : St} {r : Rf} {k : Nat} {v : Av} (h : okr σ r = true) : Gr σ (hput σ.1 r k v, σ.2) := ⟨Nat.le_refl _, Nat.le_refl _, fun _ hX => exO_put (okr_spec h).1 hX⟩
theorem Gr.new {σ : St} {r : Rf} {f : Nat → Av} (h : okr σ r = true) : Gr σ (hnew σ.1 r f, σ.2) := ⟨Nat.le_refl _, Nat.le_refl _, fun _ hX => exO_new (okr_spec h).1 hX⟩
theorem Gr.alc {σ : St} {f : Nat → Av} {ln sl : Nat} : Gr σ (alc σ f ln sl) := ⟨Nat.le_succ _, Nat.le_add_right _ _, fun _ hX => exO_alc hX⟩
theorem sC_gr {μ : Mu} {d : Nat} {i : Instr} {len pc pc' : Nat} {st st' : List Av} {σ σ' : St} (hs : sC μ d i len pc st σ = some (pc', st', σ')) : Gr σ σ' := by
  cases i <;> first | (cases hs; done) | skip
  case putfield k =>
    have h99 := is1 (show (if len = 3 then _ else none) = some _ from hs); clear hs; obtain ⟨rfl, hs⟩ := h99
    split at hs
    · have h99 := is1 hs
      clear hs
      obtain ⟨hc, h⟩ := h99
      cases h
      exact Gr.put hc.1
    · cases hs
  case iastore =>
    obtain ⟨rfl, v, x, r, rest, rfl, hok, hk, h0, h1, hz⟩ := wrA_some hs
    cases hz
    exact Gr.put hok
  case bastore =>
    have hs2 : (match wrA 11 (vp_nar .byte) len pc st σ with
      | some z => some z
      | none => wrA 12 (vp_nar .boolean) len pc st σ) = some (pc', st', σ') := hs
    clear hs
    split at hs2
    · rename_i z hz1
      obtain ⟨rfl, v, x, r, rest, rfl, hok, hk, h0, h1, hz⟩ := wrA_some hz1
      subst hz
      cases hs2
      exact Gr.put hok
    · obtain ⟨rfl, v, x, r, rest, rfl, hok, hk, h0, h1, hz⟩ := wrA_some hs2
      cases hz
      exact Gr.put hok
  case castore =>
    obtain ⟨rfl, v, x, r, rest, rfl, hok, hk, h0, h1, hz⟩ := wrA_some hs
    cases hz
    exact Gr.put hok
  case aastore =>
    have h99 := is1 (show (if len = 1 then _ else none) = some _ from hs); clear hs; obtain ⟨rfl, hs⟩ := h99
    split at hs
    · have h99 := is1 hs
      clear hs
      obtain ⟨hc, h⟩ := h99
      cases h
      exact Gr.put hc.1
    · cases hs
  case new k =>
    have h99 := is1 (show (if len = 3 then _ else none) = some _ from hs); clear hs; obtain ⟨rfl, hs⟩ := h99
    split at hs
    · have h99 := is1 hs
      clear hs
      obtain ⟨hc, h⟩ := h99
      cases h
      exact Gr.alc
    · cases hs
  case newarray t =>
    have h99 := is1 (show (if len = 2 then _ else none) = some _ from hs); clear hs; obtain ⟨rfl, hs⟩ := h99
    split at hs
    · have h99 := is1 hs
      clear hs
      obtain ⟨hc, h⟩ := h99
      cases h
      exact Gr.alc
    · cases hs
  case anewarray k =>
    have h99 := is1 (show (if len = 3 then _ else none) = some _ from hs); clear hs; obtain ⟨rfl, hs⟩ := h99
    split at hs
    · have h99 := is1 hs
      clear hs
      obtain ⟨hc, h⟩ := h99
      cases h
      exact Gr.alc
    · cases hs
  case invokespecial k =>
    have h99 := is1 (show (if len = 3 then _ else none) = some _ from hs); clear hs; obtain ⟨rfl, hs⟩ := h99
    split at hs
    · have h99 := is1 hs
      clear hs
      obtain ⟨hc, h⟩ := h99
      cases h
      exact Gr.rf
    · cases hs
  case invokestatic k =>
    have h99 := is1 (show (if len = 3 then _ else none) = some _ from hs); clear hs; obtain ⟨rfl, hs⟩ := h99
    split at hs
    · split at hs
      · have h99 := is1 hs
        clear hs
        obtain ⟨hc, h⟩ := h99
        cases h
        exact Gr.new hc.1
      · cases hs
    · split at hs
      · have h99 := is1 hs
        clear hs
        obtain ⟨hc, h⟩ := h99
        cases h
        exact Gr.rf
      · cases hs
    · split at hs
      · have h99 := is1 hs
        clear hs
        obtain ⟨hc, h⟩ := h99
        cases h
        exact Gr.rf
      · cases hs
    · split at hs
      · have h99 := is1 hs
        clear hs
        obtain ⟨hc, h⟩ := h99
        cases h
        exact Gr.rf
      · cases hs
    · cases hs
/-- one step of the interpreter, by cases -/
theorem xc_cases {n d : Nat} {μ : Mu} {pc : Nat} {l : Lv} {st : List Av} {σ : St} {res : Option Av × St} (h : xc (n + 1) d μ pc l st σ = some res) :
    ∃ i len, decode μ.1 pc = .ok (i, len) ∧ ((∃ pc' l' st', sA i len pc l st = some (pc', l', st') ∧ xc n d μ pc' l' st' σ = some res) ∨ (∃ pc' st', sB μ.2.1.cls i len pc st σ = some (pc', st') ∧ xc n d μ pc' l st' σ = some res) ∨ (∃ pc' st' σ', sC μ d i len pc st σ = some (pc', st', σ') ∧ xc n d μ pc' l st' σ' = some res) ∨ (∃ v, sE μ.2.2.2 i len st = some v ∧ res = (v, σ)) ∨
      (∃ d' μ' as rest v σ', d = d' + 1 ∧ sD μ.2.1.cls i len st σ = some (μ', as, rest) ∧ as.length ≤ μ'.2.2.1 ∧ (∀ a ∈ as, qcat a = 1) ∧ xc n d' μ' 0 (qent as μ'.2.2.1) [] σ = some (v, σ') ∧ xc n d μ (pc + 3) l (v.toList ++ rest) σ' = some res)) := by
  rw [xc] at h
  split at h
  · cases h
  · rename_i i len hd
    refine ⟨i, len, hd, ?_⟩
    split at h
    · rename_i pc' l' st' hA
      exact Or.inl ⟨pc', l', st', hA, h⟩
    · split at h
      · rename_i pc' st' hB
        exact Or.inr (Or.inl ⟨pc', st', hB, h⟩)
      · split at h
        · rename_i pc' st' σ' hC
          exact Or.inr (Or.inr (Or.inl ⟨pc', st', σ', hC, h⟩))
        · split at h
          · rename_i v hE
            exact Or.inr (Or.inr (Or.inr (Or.inl ⟨v, hE, (Option.some.inj h).symm⟩)))
          · cases d with
            | zero => cases h
            | succ d' =>
              dsimp only at h
              split at h
              · cases h
              · rename_i μ' as rest hD
                replace h := is1 h
                obtain ⟨⟨h1, h2⟩, h⟩ := h
                split at h
                · cases h
                · rename_i v σ' hc
                  exact Or.inr (Or.inr (Or.inr (Or.inr ⟨d', μ', as, rest, v, σ', rfl, hD, h1, h2, hc, h⟩)))
theorem xc_gr : ∀ (n d : Nat) (μ : Mu) (pc : Nat) (l : Lv) (st : List Av) (σ : St) (v : Option Av) (σ' : St), xc n d μ pc l st σ = some (v, σ') → Gr σ σ' := by
  intro n
  induction n with
  | zero => intro d μ pc l st σ v σ' h; cases h
  | succ n ih =>
    intro d μ pc l st σ v σ' h
    obtain ⟨i, len, hd, h⟩ := xc_cases h
    rcases h with ⟨pc', l', st', -, h⟩ | ⟨pc', st', -, h⟩ | ⟨pc', st', σ1, h1, h⟩ | ⟨v', -, h⟩ | ⟨d', μ', as, rest, v1, σ1, -, -, -, -, h1, h⟩
    · exact ih _ _ _ _ _ _ _ _ h
    · exact ih _ _ _ _ _ _ _ _ h
    · exact (sC_gr h1).tr (ih _ _ _ _ _ _ _ _ h)
    · cases h; exact Gr.rf
    · exact (ih _ _ _ _ _ _ _ _ h1).tr (ih _ _ _ _ _ _ _ _ h)
theorem sE_spec {rt : Option FieldType} {i : Instr} {len : Nat} {st : List Av} {v : Option Av} (h : sE rt i len st = some v) : len = 1 ∧ ((i = .return_ ∧ rt = none ∧ st = [] ∧ v = none) ∨ (∃ ty x, i = .ireturn ∧ rt = some ty ∧ st = [vI x] ∧ narrow ty (.int x) = .int x ∧ v = some (vI x)) ∨ (∃ x, i = .lreturn ∧ rt = some .long ∧ st = [vL x] ∧ v = some (vL x)) ∨ (∃ ty r, i = .areturn ∧ rt = some ty ∧ rfT ty = true ∧ st = [.inr (.inr r)] ∧ v = some (.inr (.inr r)))) := by
  unfold sE at h
  replace h := is1 h
  obtain ⟨h0, h⟩ := h
  refine ⟨h0, ?_⟩
  split at h
  · cases h; exact Or.inl ⟨rfl, rfl, rfl, rfl⟩
  · rename_i ty x
    replace h := is1 h
    obtain ⟨h1, h⟩ := h
    cases h
    exact Or.inr (Or.inl ⟨ty, x, rfl, rfl, rfl, h1, rfl⟩)
  · rename_i x
    cases h
    exact Or.inr (Or.inr (Or.inl ⟨x, rfl, rfl, rfl, rfl⟩))
  · rename_i ty r
    replace h := is1 h
    obtain ⟨h1, h⟩ := h
    cases h
    exact Or.inr (Or.inr (Or.inr ⟨ty, r, rfl, rfl, h1, rfl, rfl⟩))
  · cases h
theorem rsl_spec {k : Nat} {own : String} {i np : Nat} {μ : Mu} (h : rsl k own i = some (μ, np)) : ∃ nst : Option String, (∀ hst, nst = some hst → Jvm.Cond.methodLinkNest own i μ.2.1 hst ∈ lw_tbl) ∧ (parseMethodDescriptor μ.2.1.desc).map (fun d => d.parameters.length) = some np ∧ okw (.code μ.2.1 μ.1 μ.2.2.1 μ.2.2.2) = true ∧ okw (.initialized μ.2.1.cls) = true ∧ plainName μ.2.1.cls = true ∧ (μ.2.1.cls ≠ "java/lang/invoke/MethodHandle" ∧ μ.2.1.cls ≠ "java/lang/invoke/VarHandle") ∧ μ.2.2.1 ≤ 19 ∧ (nst = none → okw (.methodLink own i μ.2.1) = true) ∧
    (k = 0 → okw (.static μ.2.1) = true) ∧ (k = 1 → okw (.instanceMethod μ.2.1) = true ∧ okw (.selects μ.2.1.cls μ.2.1 μ.2.1) = true ∧ nst = none) ∧ (k = 2 → okw (.instanceMethod μ.2.1) = true ∧ μ.2.1.name = "<init>" ∧ μ.2.2.2 = none) := by
  unfold rsl at h
  split at h
  · rename_i μ' np' nst ps hf
    replace h := is1 h
    obtain ⟨⟨h1, h2, h3, h4, h5, h6, h7, h8, h9, h10⟩, h⟩ := h
    cases h
    refine ⟨nst, ?_, h6, tat_okw h1, tat_okw h2, h3, h4, h5, ?_, fun e => tat_okw (h8 e), fun e => ⟨tat_okw (h9 e).1, tat_okw (h9 e).2.1, (h9 e).2.2⟩, fun e => ⟨tat_okw (h10 e).1, (h10 e).2⟩⟩
    · intro hst e
      subst e
      exact List.mem_of_getElem? (of_decide_eq_true h7)
    · intro e
      subst e
      exact tat_okw h7
  · cases h
theorem lv_args_mem : ∀ (vs : List Value) (k : Nat) (j : Nat) (v : Value), (∀ a ∈ vs, ¬ a.category = 2) → vs[j]? = some v → (k + j, v) ∈ lv_args k vs := by
  intro vs
  induction vs with
  | nil => intro k j v _ h; simp at h
  | cons a t ih =>
    intro k j v hc h
    rw [lv_args, if_neg (hc a List.mem_cons_self)]
    cases j with
    | zero => simp at h; subst h; exact List.mem_cons_self
    | succ j =>
      have h1 : t[j]? = some v := by simpa using h
      have h2 := ih (k + 1) j v (fun a ha => hc a (List.mem_cons_of_mem _ ha)) h1
      rw [show k + 1 + j = k + (j + 1) by omega] at h2
      exact List.mem_cons_of_mem _ h2
theorem lg_sl_len : ∀ (vs : List Value), (∀ a ∈ vs, ¬ a.category = 2) → (lg_sl vs).length = vs.length := by
  intro vs
  induction vs with
  | nil => intro _; rfl
  | cons a t ih =>
    intro hc
    have h1 := ih (fun a ha => hc a (List.mem_cons_of_mem _ ha))
    have h2 : lg_sl (a :: t) = [.val a] ++ lg_sl t := by
      unfold lg_sl
      rw [List.flatMap_cons, if_neg (hc a List.mem_cons_self)]
    rw [h2, List.length_append, h1, List.length_cons]
    show 1 + t.length = t.length + 1
    omega
theorem LvR_entry {β : Nat} {ε : Rf → Value} (hε : eok ε) {as : List Av} {n : Nat} (h : as.length ≤ n) (hc : ∀ a ∈ as, qcat a = 1) : LvR β ε ((lg_sl (as.map (cnc β ε)) ++ List.replicate (n - (lg_sl (as.map (cnc β ε))).length) Slot.unset).toArray) (qent as n) := by
  have hcat : ∀ a ∈ as.map (cnc β ε), ¬ a.category = 2 := by
    intro a ha
    obtain ⟨b, hb, rfl⟩ := List.mem_map.mp ha
    rw [cnc_cat hε, hc b hb]
    decide
  have hlen := lg_sl_len _ hcat
  rw [List.length_map] at hlen
  have h1 := lv_entry (as.map (cnc β ε)) (n := n) (by rw [hlen]; exact h)
  have hql : (qent as n).length = n := by
    unfold qent
    rw [List.length_append, List.length_map, List.length_replicate]
    omega
  refine ⟨by rw [hql]; exact h1.1, h1.2.1, fun q hq => h1.2.2 q ?_⟩
  obtain ⟨j, v, hj, rfl⟩ := (lvp_mem _ 0 q).mp hq
  unfold qent at hj
  by_cases hl : j < as.length
  · rw [List.getElem?_append_left (by rw [List.length_map]; exact hl), List.getElem?_map] at hj
    have h2 : as[j]? = some v := by
      cases hx : as[j]? with
      | none => rw [hx] at hj; cases hj
      | some w => rw [hx] at hj; cases hj; rfl
    exact lv_args_mem _ 0 j _ hcat (by rw [List.getElem?_map, h2]; rfl)
  · rw [List.getElem?_append_right (by rw [List.length_map]; omega)] at hj
    have := List.mem_of_getElem? hj
    rw [List.mem_replicate] at this
    cases this.2
