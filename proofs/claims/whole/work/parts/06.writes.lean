/-! SOUNDNESS, 4: the steps that write cells or make them -/
theorem fok_ok {β : Nat} {ε : Rf → Value} (hε : eok ε) {ty : FieldType} {v : Av} (h : fok ty v = true) : narrow ty (cnc β ε v) = cnc β ε v ∧ fits ty (cnc β ε v) = true := by
  unfold fok at h
  split at h
  · exact ⟨rfl, rfl⟩
  · rcases of_decide_eq_true h with rfl | rfl <;> exact ⟨rfl, rfl⟩
  · rename_i r
    rcases cnc_ref (β := β) hε r with e | ⟨a, e⟩ <;> rw [e] <;> exact ⟨rfl, rfl⟩
  · rename_i r
    rcases cnc_ref (β := β) hε r with e | ⟨a, e⟩ <;> rw [e] <;> exact ⟨rfl, rfl⟩
  · cases h
theorem map_range_set {α : Type} {N k : Nat} (f g : Nat → α) {v : α} (hg : g k = v) (h : ∀ j, j ≠ k → g j = f j) : ((List.range N).map f).set k v = (List.range N).map g := by
  apply List.ext_getElem?
  intro n
  rw [List.getElem?_set, List.getElem?_map, List.getElem?_map, List.length_map, List.length_range]
  by_cases hn : k = n
  · subst hn
    rw [if_pos rfl]
    by_cases hl : k < N
    · rw [if_pos hl, List.getElem?_range hl, ← hg]; rfl
    · rw [if_neg hl, List.getElem?_eq_none (by simpa using hl)]; rfl
  · rw [if_neg hn]
    by_cases hl : n < N
    · rw [List.getElem?_range hl]
      show some (f n) = some (g n)
      rw [h n (fun e => hn e.symm)]
    · rw [List.getElem?_eq_none (by simpa using hl)]; rfl
def dfg (ty : FieldType) : Bool := match ty with
  | .int => true
  | .boolean => true
  | .object _ => true
  | .array _ => true
  | _ => false
theorem df_ok : (List.range 9).all (fun ci => (List.range (nFl ci)).all (fun j => dfg (tyOf ci j))) = true := by decide +kernel
theorem df_spec {β : Nat} {ε : Rf → Value} {ci j : Nat} (h9 : ci < 9) (hj : j < nFl ci) : defaultValue (tyOf ci j) = cnc β ε (dfv (tyOf ci j)) := by
  have h1 := List.all_eq_true.mp (List.all_eq_true.mp df_ok ci (List.mem_range.mpr h9)) j (List.mem_range.mpr hj)
  generalize tyOf ci j = ty at h1 ⊢
  cases ty <;> first | rfl | cases h1
theorem wrA_some {kq : Nat} {g : Int32 → Int32} {len pc : Nat} {st : List Av} {σ : St} {z : Nat × List Av × St} (h : wrA kq g len pc st σ = some z) : len = 1 ∧ ∃ v x r rest, st = vI v :: vI x :: .inr (.inr (some r)) :: rest ∧ okr σ r = true ∧ kd r.1 = kq ∧ 0 ≤ x ∧ x.toNatClampNeg < σ.2.1 r ∧ z = (pc + 1, rest, (hput σ.1 r x.toNatClampNeg (vI (g v)), σ.2)) := by
  unfold wrA at h
  replace h := is1 h
  obtain ⟨h0, h⟩ := h
  split at h
  · rename_i v x r rest
    replace h := is1 h
    obtain ⟨⟨h1, h2, h3, h4⟩, h⟩ := h
    cases h
    exact ⟨h0, v, x, r, rest, rfl, h1, h2, h3, h4, rfl⟩
  · cases h
theorem hput_ne {h : Hp} {r z : Rf} {k : Nat} {v : Av} (hz : z ≠ r) : hput h r k v z = h z := by
  funext j
  unfold hput
  rw [if_neg (fun e => hz e.1)]
theorem hnew_ne {h : Hp} {r z : Rf} {f : Nat → Av} (hz : z ≠ r) : hnew h r f z = h z := by
  unfold hnew
  rw [if_neg hz]
theorem hput_aI {h : Hp} {r : Rf} {k : Nat} {v : Int32} : (fun j => aI (hput h r k (vI v) r j)) = upd (fun j => aI (h r j)) k v := by
  funext j
  unfold hput upd
  by_cases hj : j = k
  · rw [if_pos ⟨rfl, hj⟩, if_pos hj]; rfl
  · rw [if_neg (fun e => hj e.2), if_neg hj]
theorem nwc_spec {own : String} {i ci : Nat} (h : nwc own i = some ci) : ci < 9 ∧ ∃ (C : String) (T : u_T) (N : Nat), vwCl[ci]? = some (C, T, N) ∧ okw (.classLink own i C) = true ∧ okw (.initialized C) = true ∧ okw (.instantiable C N) = true := by
  unfold nwc at h
  split at h
  · split at h
    · rename_i q hq
      replace h := is1 h
      obtain ⟨⟨h1, h2, h3⟩, h⟩ := h
      cases h
      obtain ⟨q1, q2, q3⟩ := q
      exact ⟨(List.getElem?_eq_some_iff.mp hq).1, q1, q2, q3, hq, tat_okw h1, tat_okw h2, tat_okw h3⟩
    · cases h
  · cases h
theorem nwa_spec {own : String} {i kq : Nat} (h : nwa own i = some kq) : ∃ C, 14 ≤ kq ∧ kq < 18 ∧ aty kq = .object C ∧ okw (.classLink own i C) = true ∧ Jvm.Cond.arrayOver (.object C) ∈ lw_tbl := by
  unfold nwa at h
  split at h
  · replace h := is1 h
    obtain ⟨⟨h1, h2, h3, h4, h5⟩, h⟩ := h
    cases h
    exact ⟨_, h1, h2, h3, tat_okw h4, List.mem_of_getElem? h5⟩
  · cases h
theorem spc_0 {own : String} {i : Nat} (h : spc own i = some 0) : okw (.methodLink own i Lib.objectInit) = true ∧ okw (.instanceMethod Lib.objectInit) = true ∧ okw (.code Lib.objectInit ⟨#[0xb1]⟩ 1 none) = true := by
  unfold spc at h
  split at h
  · split at h
    · replace h := is1 h
      exact ⟨tat_okw h.1.1, tat_okw h.1.2.1, tat_okw h.1.2.2⟩
    · split at h
      · replace h := is1 h
        cases h.2
      · split at h
        · rename_i k0 k1 k5
          replace h := is1 h
          cases h.2
          exact absurd rfl k0
        · cases h
  · cases h
theorem spc_1 {own : String} {i : Nat} (h : spc own i = some 1) : okw (.methodLink own i arraycopyName) = true ∧ okw (.native arraycopyName) = true ∧ okw (.static arraycopyName) = true ∧ okw (.initialized "java/lang/System") = true := by
  unfold spc at h
  split at h
  · split at h
    · replace h := is1 h
      cases h.2
    · split at h
      · replace h := is1 h
        exact ⟨tat_okw h.1.1, tat_okw h.1.2.1, tat_okw h.1.2.2.1, tat_okw h.1.2.2.2⟩
      · split at h
        · rename_i k0 k1 k5
          replace h := is1 h
          cases h.2
          exact absurd rfl k1
        · cases h
  · cases h
theorem spc_m {own : String} {i k : Nat} (hk : 2 ≤ k) (h : spc own i = some k) : okw (.methodLink own i (mthN k)) = true ∧ okw (.static (mthN k)) = true ∧ okw (.initialized "java/lang/Math") = true ∧ okw (.code (mthN k) (mthC k) (if k = 4 then 1 else 2) (some .int)) = true := by
  unfold spc at h
  split at h
  · split at h
    · replace h := is1 h
      cases h.2
      omega
    · split at h
      · replace h := is1 h
        cases h.2
        omega
      · split at h
        · replace h := is1 h
          obtain ⟨h1, h2⟩ := h
          cases h2
          exact ⟨tat_okw h1.1, tat_okw h1.2.1, tat_okw h1.2.2.1, tat_okw h1.2.2.2⟩
        · cases h
  · cases h
section SC
variable {p : Program} {lc : Launch} {e : Env} {R : Room} {s : State} {m : MethodId} {args : Array Value} {below : List Frame} {meth : Method} {c : Code} {H : Heap} {locs : List Loc} {cells slots : Nat} {Q : State → Prop}
variable {β : Nat} {D : va_G} {cs : Nat → ClassId} {X : Xp}
theorem W.sized {g : JFrame} (h : H.size ≤ s.heap.size + cells → W p lc e R s m args below meth c H locs cells slots Q g) : W p lc e R s m args below meth c H locs cells slots Q g := by
  intro T hT Y
  have h1 : (T.setVm s.vm).heap.size ≤ s.heap.size + cells := Y.same.2.2.1
  exact h (by rw [← hT]; exact h1) T hT Y
theorem size_ge {σ : St} (hP : va_P D vwCl (wsO β cs (xE X) σ) H) (h0 : β ≤ H.size) : β + σ.2.2.1 ≤ H.size := by
  by_cases hz : σ.2.2.1 = 0
  · omega
  · have h1 : (wsO β cs (xE X) σ)[σ.2.2.1 - 1]? = some (β + (σ.2.2.1 - 1), ent β cs (xE X) σ (qmk (σ.2.2.1 - 1))) := by
      unfold wsO
      rw [List.getElem?_map, List.getElem?_range (by omega)]
      rfl
    have h2 : β + (σ.2.2.1 - 1) < H.size := (hP _ _ h1).lt
    omega
/-- behind a new cell -/
theorem born {σ : St} {H1 : Heap} {f : Nat → Av} {ln sl : Nat} (hP : va_P D vwCl (wsO β cs (xE X) σ) H) (hH : H.size = β + σ.2.2.1) (o1 : ∀ q, q < H.size → H1[q]? = H[q]?) (he : va_at D vwCl (β + σ.2.2.1, ent β cs (xE X) (alc σ f ln sl) (qmk σ.2.2.1)) H1) : va_P D vwCl (wsO β cs (xE X) (alc σ f ln sl)) H1 := by
  rw [← wsO_alc]
  refine (hP.kept (fun k x hx => o1 x.1 ((hP k x hx).lt))).app (fun k x hx => ?_)
  have hz : k < 1 := (List.getElem?_eq_some_iff.mp hx).1
  rw [show k = 0 by omega] at hx
  cases hx
  exact he
theorem ent_alc {σ : St} {f : Nat → Av} {ln sl : Nat} : (alc σ f ln sl).1 (qmk σ.2.2.1) = f ∧ (alc σ f ln sl).2.1 (qmk σ.2.2.1) = ln := by
  constructor
  · show (if qmk σ.2.2.1 = qmk σ.2.2.1 then f else _) = f
    rw [if_pos rfl]
  · show (if qmk σ.2.2.1 = qmk σ.2.2.1 then ln else _) = ln
    rw [if_pos rfl]
end SC
