/-! SOUNDNESS, 1: values, locals, and the steps that do not ask the cells -/
def cnc (β : Nat) (ε : Rf → Value) (v : Av) : Value := match v with
  | .inl x => .int x
  | .inr (.inl x) => .long x
  | .inr (.inr none) => .null
  | .inr (.inr (some r)) => if r.1 < 5 then ε r else .ref (β + qoff r)
def eok (ε : Rf → Value) : Prop := ∀ r, ε r = .null ∨ ∃ a, ε r = .ref a
theorem cnc_ref {β : Nat} {ε : Rf → Value} (hε : eok ε) (r : Option Rf) : cnc β ε (.inr (.inr r)) = .null ∨ ∃ a, cnc β ε (.inr (.inr r)) = .ref a := by
  cases r with
  | none => exact Or.inl rfl
  | some r =>
    by_cases h : r.1 < 5
    · simp only [cnc, if_pos h]; exact hε r
    · simp only [cnc, if_neg h]; exact Or.inr ⟨_, rfl⟩
theorem cnc_cat {β : Nat} {ε : Rf → Value} (hε : eok ε) (v : Av) : (cnc β ε v).category = qcat v := by
  match v with
  | .inl x => rfl
  | .inr (.inl x) => rfl
  | .inr (.inr r) =>
    rcases cnc_ref (β := β) hε r with h | ⟨a, h⟩ <;> rw [h] <;> rfl
theorem cnc_sum {β : Nat} {ε : Rf → Value} (hε : eok ε) (st : List Av) : ((st.map (cnc β ε)).map fun v => v.category).sum = (st.map qcat).sum := by
  rw [List.map_map]
  congr 1
  apply List.map_congr_left
  intro v _
  exact cnc_cat hε v
def lvp (β : Nat) (ε : Rf → Value) : Nat → Lv → List (Nat × Value)
  | _, [] => []
  | i, none :: t => lvp β ε (i + 1) t
  | i, some v :: t => (i, cnc β ε v) :: lvp β ε (i + 1) t
theorem lvp_mem {β : Nat} {ε : Rf → Value} : ∀ (l : Lv) (k : Nat) (q : Nat × Value), q ∈ lvp β ε k l ↔ ∃ (j : Nat) (v : Av), l[j]? = some (some v) ∧ q = (k + j, cnc β ε v) := by
  intro l
  induction l with
  | nil => intro k q; simp [lvp]
  | cons a t ih =>
    intro k q
    cases a with
    | none =>
      rw [lvp, ih]
      constructor
      · rintro ⟨j, v, h, rfl⟩
        exact ⟨j + 1, v, by simpa using h, by rw [show k + (j + 1) = k + 1 + j by omega]⟩
      · rintro ⟨j, v, h, rfl⟩
        cases j with
        | zero => simp at h
        | succ j => exact ⟨j, v, by simpa using h, by rw [show k + (j + 1) = k + 1 + j by omega]⟩
    | some a =>
      rw [lvp, List.mem_cons, ih]
      constructor
      · rintro (rfl | ⟨j, v, h, rfl⟩)
        · exact ⟨0, a, by simp, by simp⟩
        · exact ⟨j + 1, v, by simpa using h, by rw [show k + (j + 1) = k + 1 + j by omega]⟩
      · rintro ⟨j, v, h, rfl⟩
        cases j with
        | zero =>
          simp at h
          left; rw [h]; simp
        | succ j => exact Or.inr ⟨j, v, by simpa using h, by rw [show k + (j + 1) = k + 1 + j by omega]⟩
def LvR (β : Nat) (ε : Rf → Value) (ls : Array Slot) (l : Lv) : Prop := lv_has ls l.length (lvp β ε 0 l)
theorem ldv_iff {l : Lv} {k : Nat} {v : Av} : ldv l k = some v ↔ l[k]? = some (some v) := by
  unfold ldv
  cases h : l[k]? with
  | none => simp
  | some a => simp
theorem LvR.at {β : Nat} {ε : Rf → Value} {ls : Array Slot} {l : Lv} {k : Nat} {v : Av} (h : LvR β ε ls l) (hk : ldv l k = some v) : ls[k]? = some (.val (cnc β ε v)) := by
  have := h.2.2 (k, cnc β ε v) ((lvp_mem l 0 _).mpr ⟨k, v, ldv_iff.mp hk, by simp⟩)
  exact this
theorem LvR.in {β : Nat} {ε : Rf → Value} {l : Lv} {k : Nat} {v : Av} (hk : ldv l k = some v) : ∃ j : Nat, (lvp β ε 0 l)[j]? = some (k, cnc β ε v) := List.getElem?_of_mem ((lvp_mem l 0 _).mpr ⟨k, v, ldv_iff.mp hk, by simp⟩)
theorem qsto_some {l l' : Lv} {i : Nat} {v : Av} (h : qsto l i v = some l') : i < l.length ∧ nlx l i = true ∧ l' = l.set i (some v) := by
  unfold qsto at h
  split at h
  · rename_i hc; exact ⟨hc.1, hc.2, (Option.some.inj h).symm⟩
  · cases h
theorem qstoL_some {l l' : Lv} {i : Nat} {v : Av} (h : qstoL l i v = some l') : i + 1 < l.length ∧ nlx l i = true ∧ l' = (l.set i (some v)).set (i + 1) none := by
  unfold qstoL at h
  split at h
  · rename_i hc; exact ⟨hc.1, hc.2, (Option.some.inj h).symm⟩
  · cases h
theorem nlx_cat {β : Nat} {ε : Rf → Value} (hε : eok ε) {l : Lv} {i j : Nat} {w : Av} (h : nlx l i = true) (hj : l[j]? = some (some w)) (e : j + 1 = i) : ¬ (cnc β ε w).category = 2 := by
  subst e
  rw [cnc_cat hε]
  simp only [nlx, ldv_iff.mpr hj] at h
  match w with
  | .inl x => simp [qcat]
  | .inr (.inl x) => simp at h
  | .inr (.inr r) => simp [qcat]
theorem LvR.set {β : Nat} {ε : Rf → Value} (hε : eok ε) {l l' : Lv} {i : Nat} {v : Av} {ls' : Array Slot} (hs : qsto l i v = some l') (h : lv_has ls' l.length ((i, cnc β ε v) :: (lvp β ε 0 l).filter (fun q => !(q.1 == i) && !(q.1 + 1 == i && q.2.category == 2)))) : LvR β ε ls' l' := by
  obtain ⟨hi, hn, rfl⟩ := qsto_some hs
  refine ⟨by rw [List.length_set]; exact h.1, h.2.1, fun q hq => h.2.2 q ?_⟩
  obtain ⟨j, w, hj, rfl⟩ := (lvp_mem _ 0 q).mp hq
  rw [List.getElem?_set] at hj
  rw [Nat.zero_add] at hq ⊢
  by_cases hij : i = j
  · subst hij
    simp [hi] at hj
    subst hj
    exact List.mem_cons_self
  · simp only [hij, if_false] at hj
    refine List.mem_cons_of_mem _ (List.mem_filter.mpr ⟨(lvp_mem l 0 _).mpr ⟨j, w, hj, by simp⟩, ?_⟩)
    have h1 : ¬ j = i := fun z => hij z.symm
    by_cases h2 : j + 1 = i
    · have := nlx_cat (β := β) hε hn hj h2
      simp [h1, this]
    · simp [h1, h2]
theorem LvR.setL {β : Nat} {ε : Rf → Value} (hε : eok ε) {l l' : Lv} {i : Nat} {v : Av} {ls' : Array Slot} (hs : qstoL l i v = some l') (h : lv_has ls' l.length ((i, cnc β ε v) :: (lvp β ε 0 l).filter (fun q => !(q.1 == i) && (!(q.1 == i + 1) && !(q.1 + 1 == i && q.2.category == 2))))) : LvR β ε ls' l' := by
  obtain ⟨hi, hn, rfl⟩ := qstoL_some hs
  refine ⟨by rw [List.length_set, List.length_set]; exact h.1, h.2.1, fun q hq => h.2.2 q ?_⟩
  obtain ⟨j, w, hj, rfl⟩ := (lvp_mem _ 0 q).mp hq
  rw [List.getElem?_set, List.getElem?_set] at hj
  rw [Nat.zero_add] at hq ⊢
  by_cases h0 : i + 1 = j
  · rw [if_pos h0] at hj
    simp at hj
  · rw [if_neg h0] at hj
    by_cases hij : i = j
    · subst hij
      rw [if_pos rfl, if_pos (by omega)] at hj
      simp at hj
      subst hj
      exact List.mem_cons_self
    · rw [if_neg hij] at hj
      refine List.mem_cons_of_mem _ (List.mem_filter.mpr ⟨(lvp_mem l 0 _).mpr ⟨j, w, hj, by simp⟩, ?_⟩)
      have h1 : ¬ j = i := fun z => hij z.symm
      have h3 : ¬ j = i + 1 := fun z => h0 z.symm
      by_cases h2 : j + 1 = i
      · have := nlx_cat (β := β) hε hn hj h2
        simp [h1, h3, this]
      · simp [h1, h3, h2]
theorem is1 {c : Prop} [Decidable c] {α : Type} {a : Option α} {b : α} (h : (if c then a else none) = some b) : c ∧ a = some b := by
  by_cases hc : c
  · rw [if_pos hc] at h; exact ⟨hc, h⟩
  · rw [if_neg hc] at h; cases h
theorem is2 {α γ : Type} {a : Option α} {f : α → γ} {b : γ} (h : a.map f = some b) : ∃ x, a = some x ∧ f x = b := by
  cases a with
  | none => cases h
  | some x => exact ⟨x, rfl, Option.some.inj h⟩
theorem qjmp_some {pc t : Nat} {o : Int} (h : qjmp pc o = some t) : (pc : Int) + o = (t : Int) := by
  unfold qjmp at h
  obtain ⟨h1, h2⟩ := is1 h
  have := Option.some.inj h2
  omega
theorem b2_some {f : Int32 → Int32 → Int32} {pc : Nat} {l : Lv} {st : List Av} {z : Nat × Lv × List Av} (h : b2 f pc l st = some z) : ∃ x y rest, st = vI y :: vI x :: rest ∧ z = (pc + 1, l, vI (f x y) :: rest) := by
  unfold b2 at h
  split at h
  · rename_i y x rest; exact ⟨x, y, rest, rfl, (Option.some.inj h).symm⟩
  · cases h
theorem b2L_some {f : Int64 → Int64 → Int64} {pc : Nat} {l : Lv} {st : List Av} {z : Nat × Lv × List Av} (h : b2L f pc l st = some z) : ∃ x y rest, st = vL y :: vL x :: rest ∧ z = (pc + 1, l, vL (f x y) :: rest) := by
  unfold b2L at h
  split at h
  · rename_i y x rest; exact ⟨x, y, rest, rfl, (Option.some.inj h).symm⟩
  · cases h
theorem u1_some {f : Int32 → Int32} {pc : Nat} {l : Lv} {st : List Av} {z : Nat × Lv × List Av} (h : u1 f pc l st = some z) : ∃ x rest, st = vI x :: rest ∧ z = (pc + 1, l, vI (f x) :: rest) := by
  unfold u1 at h
  split at h
  · rename_i x rest; exact ⟨x, rest, rfl, (Option.some.inj h).symm⟩
  · cases h
theorem liI_some {l : Lv} {k pc : Nat} {st : List Av} {z : Nat × Lv × List Av} (h : liI l k pc st = some z) : ∃ x, ldv l k = some (vI x) ∧ z = (pc, l, vI x :: st) := by
  unfold liI at h
  split at h
  · rename_i x hx; exact ⟨x, hx, (Option.some.inj h).symm⟩
  · cases h
theorem liA_some {l : Lv} {k pc : Nat} {st : List Av} {z : Nat × Lv × List Av} (h : liA l k pc st = some z) : ∃ r, ldv l k = some (.inr (.inr r)) ∧ z = (pc, l, .inr (.inr r) :: st) := by
  unfold liA at h
  split at h
  · rename_i x hx; exact ⟨x, hx, (Option.some.inj h).symm⟩
  · cases h
theorem liL_some {l : Lv} {k pc : Nat} {st : List Av} {z : Nat × Lv × List Av} (h : liL l k pc st = some z) : ∃ x, ldv l k = some (vL x) ∧ z = (pc, l, vL x :: st) := by
  unfold liL at h
  split at h
  · rename_i x hx; exact ⟨x, hx, (Option.some.inj h).symm⟩
  · cases h
theorem siI_some {l : Lv} {k pc : Nat} {st : List Av} {z : Nat × Lv × List Av} (h : siI l k pc st = some z) : ∃ x rest l', st = vI x :: rest ∧ qsto l k (vI x) = some l' ∧ z = (pc, l', rest) := by
  unfold siI at h
  split at h
  · rename_i x rest; obtain ⟨l', h1, h2⟩ := is2 h; exact ⟨x, rest, l', rfl, h1, h2.symm⟩
  · cases h
theorem siA_some {l : Lv} {k pc : Nat} {st : List Av} {z : Nat × Lv × List Av} (h : siA l k pc st = some z) : ∃ r rest l', st = .inr (.inr r) :: rest ∧ qsto l k (.inr (.inr r)) = some l' ∧ z = (pc, l', rest) := by
  unfold siA at h
  split at h
  · rename_i x rest; obtain ⟨l', h1, h2⟩ := is2 h; exact ⟨x, rest, l', rfl, h1, h2.symm⟩
  · cases h
theorem siL_some {l : Lv} {k pc : Nat} {st : List Av} {z : Nat × Lv × List Av} (h : siL l k pc st = some z) : ∃ x rest l', st = vL x :: rest ∧ qstoL l k (vL x) = some l' ∧ z = (pc, l', rest) := by
  unfold siL at h
  split at h
  · rename_i x rest; obtain ⟨l', h1, h2⟩ := is2 h; exact ⟨x, rest, l', rfl, h1, h2.symm⟩
  · cases h
section SA
variable {p : Program} {lc : Launch} {e : Env} {R : Room} {s : State} {m : MethodId} {args : Array Value} {below : List Frame} {meth : Method} {c : Code} {H : Heap} {locs : List Loc} {cells slots : Nat} {Q : State → Prop}
theorem qw_aload {β : Nat} {ε : Rf → Value} (hε : eok ε) {cc : ByteArray} {pc i : Nat} {ls : Array Slot} {rest : List Value} {r : Option Rf} (hx : p.tables.exec = Jvm.exec) (hb : c.code = cc) (hd : decode cc pc = .ok (.aload i, 2)) (hl : ls[i]? = some (.val (cnc β ε (.inr (.inr r)))))
    (k : W p lc e R s m args below meth c H locs cells slots Q (F0 m (pc + 2) ls (cnc β ε (.inr (.inr r)) :: rest))) : W p lc e R s m args below meth c H locs cells slots Q (F0 m pc ls rest) := by
  rcases cnc_ref (β := β) hε r with h | ⟨a, h⟩
  · rw [h] at hl k; exact lv_aloadN hx hb hd hl k
  · rw [h] at hl k; exact lv_aload hx hb hd hl k
theorem qw_aload_n {β : Nat} {ε : Rf → Value} (hε : eok ε) {cc : ByteArray} {pc : Nat} {i : Fin 4} {ls : Array Slot} {rest : List Value} {r : Option Rf} (hx : p.tables.exec = Jvm.exec) (hb : c.code = cc) (hd : decode cc pc = .ok (.aload_n i, 1)) (hl : ls[(i : Nat)]? = some (.val (cnc β ε (.inr (.inr r)))))
    (k : W p lc e R s m args below meth c H locs cells slots Q (F0 m (pc + 1) ls (cnc β ε (.inr (.inr r)) :: rest))) : W p lc e R s m args below meth c H locs cells slots Q (F0 m pc ls rest) := by
  rcases cnc_ref (β := β) hε r with h | ⟨a, h⟩
  · rw [h] at hl k; exact lv_aload_nN hx hb hd rfl hl k
  · rw [h] at hl k; exact lv_aload_n hx hb hd rfl hl k
theorem qw_astore {β : Nat} {ε : Rf → Value} (hε : eok ε) {cc : ByteArray} {pc i : Nat} {ls : Array Slot} {rest : List Value} {r : Option Rf} {nL : Nat} {lv : List (Nat × Value)} (hx : p.tables.exec = Jvm.exec) (hb : c.code = cc) (hd : decode cc pc = .ok (.astore i, 2)) (h : lv_has ls nL lv) (hn : i < nL)
    (k : ∀ ls', lv_has ls' nL ((i, cnc β ε (.inr (.inr r))) :: lv.filter (fun q => !(q.1 == i) && !(q.1 + 1 == i && q.2.category == 2))) → W p lc e R s m args below meth c H locs cells slots Q (F0 m (pc + 2) ls' rest)) : W p lc e R s m args below meth c H locs cells slots Q (F0 m pc ls (cnc β ε (.inr (.inr r)) :: rest)) := by
  rcases cnc_ref (β := β) hε r with h0 | ⟨a, h0⟩
  · rw [h0] at k ⊢; exact lv_astoreN hx hb hd h hn rfl k
  · rw [h0] at k ⊢; exact lv_astore hx hb hd h hn rfl k
theorem qw_astore_n {β : Nat} {ε : Rf → Value} (hε : eok ε) {cc : ByteArray} {pc : Nat} {i : Fin 4} {ls : Array Slot} {rest : List Value} {r : Option Rf} {nL : Nat} {lv : List (Nat × Value)} (hx : p.tables.exec = Jvm.exec) (hb : c.code = cc) (hd : decode cc pc = .ok (.astore_n i, 1)) (h : lv_has ls nL lv) (hn : (i : Nat) < nL)
    (k : ∀ ls', lv_has ls' nL (((i : Nat), cnc β ε (.inr (.inr r))) :: lv.filter (fun q => !(q.1 == (i : Nat)) && !(q.1 + 1 == (i : Nat) && q.2.category == 2))) → W p lc e R s m args below meth c H locs cells slots Q (F0 m (pc + 1) ls' rest)) : W p lc e R s m args below meth c H locs cells slots Q (F0 m pc ls (cnc β ε (.inr (.inr r)) :: rest)) := by
  rcases cnc_ref (β := β) hε r with h0 | ⟨a, h0⟩
  · rw [h0] at k ⊢; exact lv_astore_nN hx hb hd rfl h hn rfl k
  · rw [h0] at k ⊢; exact lv_astore_n hx hb hd rfl h hn rfl k
set_option maxHeartbeats 4000000 in
set_option maxRecDepth 20000 in
theorem sA_ok {β : Nat} {ε : Rf → Value} (hε : eok ε) {cc : ByteArray} {i : Instr} {len pc pc' : Nat} {l l' : Lv} {st st' : List Av} {ls : Array Slot} (hx : p.tables.exec = Jvm.exec) (hb : c.code = cc) (hl : LvR β ε ls l) (hd : decode cc pc = .ok (i, len)) (hs : sA i len pc l st = some (pc', l', st'))
    (kk : ∀ ls', LvR β ε ls' l' → ls'.size = ls.size → W p lc e R s m args below meth c H locs cells slots Q (F0 m pc' ls' (st'.map (cnc β ε)))) : W p lc e R s m args below meth c H locs cells slots Q (F0 m pc ls (st.map (cnc β ε))) := by
  cases i <;> first | (cases hs; done) | skip
  case aconst_null =>
    have h99 := is1 (show (if len = 1 then _ else none) = some _ from hs); clear hs; obtain ⟨rfl, hs⟩ := h99
    cases hs
    exact lv_null hx hb hd (kk _ hl rfl)
  case iconst n =>
    have h99 := is1 (show (if len = 1 then _ else none) = some _ from hs); clear hs; obtain ⟨rfl, hs⟩ := h99
    cases hs
    exact lv_iconst hx hb hd rfl (kk _ hl rfl)
  case bipush n =>
    have h99 := is1 (show (if len = 2 then _ else none) = some _ from hs); clear hs; obtain ⟨rfl, hs⟩ := h99
    cases hs
    exact lv_bipush hx hb hd rfl (kk _ hl rfl)
  case sipush n =>
    have h99 := is1 (show (if len = 3 then _ else none) = some _ from hs); clear hs; obtain ⟨rfl, hs⟩ := h99
    cases hs
    exact lv_sipush hx hb hd rfl (kk _ hl rfl)
  case lconst n =>
    have h99 := is1 (show (if len = 1 then _ else none) = some _ from hs); clear hs; obtain ⟨rfl, hs⟩ := h99
    cases hs
    exact lv_lconst hx hb hd rfl (kk _ hl rfl)
  case iload_n k =>
    have h99 := is1 (show (if len = 1 then _ else none) = some _ from hs); clear hs; obtain ⟨rfl, hs⟩ := h99
    obtain ⟨x, h1, e1⟩ := liI_some hs
    cases e1
    exact lv_iload_n hx hb hd rfl (hl.at h1) (kk _ hl rfl)
  case iload k =>
    have h99 := is1 (show (if len = 2 then _ else none) = some _ from hs); clear hs; obtain ⟨rfl, hs⟩ := h99
    obtain ⟨x, h1, e1⟩ := liI_some hs
    cases e1
    exact lv_iload hx hb hd (hl.at h1) (kk _ hl rfl)
  case lload_n k =>
    have h99 := is1 (show (if len = 1 then _ else none) = some _ from hs); clear hs; obtain ⟨rfl, hs⟩ := h99
    obtain ⟨x, h1, e1⟩ := liL_some hs
    cases e1
    exact lv_lload_n hx hb hd rfl (hl.at h1) (kk _ hl rfl)
  case lload k =>
    have h99 := is1 (show (if len = 2 then _ else none) = some _ from hs); clear hs; obtain ⟨rfl, hs⟩ := h99
    obtain ⟨x, h1, e1⟩ := liL_some hs
    cases e1
    exact lv_lload hx hb hd (hl.at h1) (kk _ hl rfl)
  case aload_n k =>
    have h99 := is1 (show (if len = 1 then _ else none) = some _ from hs); clear hs; obtain ⟨rfl, hs⟩ := h99
    obtain ⟨x, h1, e1⟩ := liA_some hs
    cases e1
    exact qw_aload_n hε hx hb hd (hl.at h1) (kk _ hl rfl)
  case aload k =>
    have h99 := is1 (show (if len = 2 then _ else none) = some _ from hs); clear hs; obtain ⟨rfl, hs⟩ := h99
    obtain ⟨x, h1, e1⟩ := liA_some hs
    cases e1
    exact qw_aload hε hx hb hd (hl.at h1) (kk _ hl rfl)
  case istore_n k =>
    have h99 := is1 (show (if len = 1 then _ else none) = some _ from hs); clear hs; obtain ⟨rfl, hs⟩ := h99
    obtain ⟨x, rest, l1, rfl, h1, e1⟩ := siI_some hs
    cases e1
    exact lv_istore_n hx hb hd rfl hl (qsto_some h1).1 rfl (fun ls1 h2 => kk ls1 (LvR.set hε h1 h2) (h2.1.trans hl.1.symm))
  case istore k =>
    have h99 := is1 (show (if len = 2 then _ else none) = some _ from hs); clear hs; obtain ⟨rfl, hs⟩ := h99
    obtain ⟨x, rest, l1, rfl, h1, e1⟩ := siI_some hs
    cases e1
    exact lv_istore hx hb hd hl (qsto_some h1).1 rfl (fun ls1 h2 => kk ls1 (LvR.set hε h1 h2) (h2.1.trans hl.1.symm))
  case lstore_n k =>
    have h99 := is1 (show (if len = 1 then _ else none) = some _ from hs); clear hs; obtain ⟨rfl, hs⟩ := h99
    obtain ⟨x, rest, l1, rfl, h1, e1⟩ := siL_some hs
    cases e1
    exact lv_lstore_n hx hb hd rfl hl (qstoL_some h1).1 rfl (fun ls1 h2 => kk ls1 (LvR.setL hε h1 h2) (h2.1.trans hl.1.symm))
  case lstore k =>
    have h99 := is1 (show (if len = 2 then _ else none) = some _ from hs); clear hs; obtain ⟨rfl, hs⟩ := h99
    obtain ⟨x, rest, l1, rfl, h1, e1⟩ := siL_some hs
    cases e1
    exact lv_lstore hx hb hd hl (qstoL_some h1).1 rfl (fun ls1 h2 => kk ls1 (LvR.setL hε h1 h2) (h2.1.trans hl.1.symm))
  case astore_n k =>
    have h99 := is1 (show (if len = 1 then _ else none) = some _ from hs); clear hs; obtain ⟨rfl, hs⟩ := h99
    obtain ⟨x, rest, l1, rfl, h1, e1⟩ := siA_some hs
    cases e1
    exact qw_astore_n hε hx hb hd hl (qsto_some h1).1 (fun ls1 h2 => kk ls1 (LvR.set hε h1 h2) (h2.1.trans hl.1.symm))
  case astore k =>
    have h99 := is1 (show (if len = 2 then _ else none) = some _ from hs); clear hs; obtain ⟨rfl, hs⟩ := h99
    obtain ⟨x, rest, l1, rfl, h1, e1⟩ := siA_some hs
    cases e1
    exact qw_astore hε hx hb hd hl (qsto_some h1).1 (fun ls1 h2 => kk ls1 (LvR.set hε h1 h2) (h2.1.trans hl.1.symm))
  case iinc k n =>
    have h99 := is1 (show (if len = 3 then _ else none) = some _ from hs); clear hs; obtain ⟨rfl, hs⟩ := h99
    split at hs
    · rename_i x hx1
      obtain ⟨l1, h1, e1⟩ := is2 hs
      cases e1
      obtain ⟨j, hj⟩ := LvR.in (β := β) (ε := ε) hx1
      exact lv_iinc hx hb hd hl hj rfl (qsto_some h1).1 rfl (fun ls1 h2 => kk ls1 (LvR.set hε h1 h2) (h2.1.trans hl.1.symm))
    · cases hs
  case iadd =>
    have h99 := is1 (show (if len = 1 then _ else none) = some _ from hs); clear hs; obtain ⟨rfl, hs⟩ := h99
    obtain ⟨x, y, rest, rfl, e1⟩ := b2_some hs
    cases e1
    exact lv_iadd hx hb hd (kk _ hl rfl)
  case isub =>
    have h99 := is1 (show (if len = 1 then _ else none) = some _ from hs); clear hs; obtain ⟨rfl, hs⟩ := h99
    obtain ⟨x, y, rest, rfl, e1⟩ := b2_some hs
    cases e1
    exact lv_isub hx hb hd (kk _ hl rfl)
  case imul =>
    have h99 := is1 (show (if len = 1 then _ else none) = some _ from hs); clear hs; obtain ⟨rfl, hs⟩ := h99
    obtain ⟨x, y, rest, rfl, e1⟩ := b2_some hs
    cases e1
    exact lv_imul hx hb hd (kk _ hl rfl)
  case iand =>
    have h99 := is1 (show (if len = 1 then _ else none) = some _ from hs); clear hs; obtain ⟨rfl, hs⟩ := h99
    obtain ⟨x, y, rest, rfl, e1⟩ := b2_some hs
    cases e1
    exact lv_iand hx hb hd (kk _ hl rfl)
  case ior =>
    have h99 := is1 (show (if len = 1 then _ else none) = some _ from hs); clear hs; obtain ⟨rfl, hs⟩ := h99
    obtain ⟨x, y, rest, rfl, e1⟩ := b2_some hs
    cases e1
    exact lv_ior hx hb hd (kk _ hl rfl)
  case ixor =>
    have h99 := is1 (show (if len = 1 then _ else none) = some _ from hs); clear hs; obtain ⟨rfl, hs⟩ := h99
    obtain ⟨x, y, rest, rfl, e1⟩ := b2_some hs
    cases e1
    exact lv_ixor hx hb hd (kk _ hl rfl)
  case ishl =>
    have h99 := is1 (show (if len = 1 then _ else none) = some _ from hs); clear hs; obtain ⟨rfl, hs⟩ := h99
    obtain ⟨x, y, rest, rfl, e1⟩ := b2_some hs
    cases e1
    exact lv_ishl hx hb hd (kk _ hl rfl)
  case ishr =>
    have h99 := is1 (show (if len = 1 then _ else none) = some _ from hs); clear hs; obtain ⟨rfl, hs⟩ := h99
    obtain ⟨x, y, rest, rfl, e1⟩ := b2_some hs
    cases e1
    exact lv_ishr hx hb hd (kk _ hl rfl)
  case iushr =>
    have h99 := is1 (show (if len = 1 then _ else none) = some _ from hs); clear hs; obtain ⟨rfl, hs⟩ := h99
    obtain ⟨x, y, rest, rfl, e1⟩ := b2_some hs
    cases e1
    exact lv_iushr hx hb hd rfl (kk _ hl rfl)
  case idiv =>
    have h99 := is1 (show (if len = 1 then _ else none) = some _ from hs); clear hs; obtain ⟨rfl, hs⟩ := h99
    split at hs
    · rename_i y x rest
      by_cases hy : y = 0
      · rw [if_pos hy] at hs; cases hs
      · rw [if_neg hy] at hs
        cases hs
        exact lv_idiv hx hb hd hy (kk _ hl rfl)
    · cases hs
  case irem =>
    have h99 := is1 (show (if len = 1 then _ else none) = some _ from hs); clear hs; obtain ⟨rfl, hs⟩ := h99
    split at hs
    · rename_i y x rest
      by_cases hy : y = 0
      · rw [if_pos hy] at hs; cases hs
      · rw [if_neg hy] at hs
        cases hs
        exact lv_irem hx hb hd hy (kk _ hl rfl)
    · cases hs
  case ineg =>
    have h99 := is1 (show (if len = 1 then _ else none) = some _ from hs); clear hs; obtain ⟨rfl, hs⟩ := h99
    obtain ⟨x, rest, rfl, e1⟩ := u1_some hs
    cases e1
    exact lv_ineg hx hb hd (kk _ hl rfl)
  case i2b =>
    have h99 := is1 (show (if len = 1 then _ else none) = some _ from hs); clear hs; obtain ⟨rfl, hs⟩ := h99
    obtain ⟨x, rest, rfl, e1⟩ := u1_some hs
    cases e1
    exact lv_i2b hx hb hd rfl (kk _ hl rfl)
  case i2s =>
    have h99 := is1 (show (if len = 1 then _ else none) = some _ from hs); clear hs; obtain ⟨rfl, hs⟩ := h99
    obtain ⟨x, rest, rfl, e1⟩ := u1_some hs
    cases e1
    exact lv_i2s hx hb hd rfl (kk _ hl rfl)
  case i2c =>
    have h99 := is1 (show (if len = 1 then _ else none) = some _ from hs); clear hs; obtain ⟨rfl, hs⟩ := h99
    obtain ⟨x, rest, rfl, e1⟩ := u1_some hs
    cases e1
    exact lv_i2c hx hb hd rfl (kk _ hl rfl)
  case i2l =>
    have h99 := is1 (show (if len = 1 then _ else none) = some _ from hs); clear hs; obtain ⟨rfl, hs⟩ := h99
    split at hs
    · cases hs
      exact lv_i2l hx hb hd rfl (kk _ hl rfl)
    · cases hs
  case l2i =>
    have h99 := is1 (show (if len = 1 then _ else none) = some _ from hs); clear hs; obtain ⟨rfl, hs⟩ := h99
    split at hs
    · cases hs
      exact lv_l2i hx hb hd rfl (kk _ hl rfl)
    · cases hs
  case ladd =>
    have h99 := is1 (show (if len = 1 then _ else none) = some _ from hs); clear hs; obtain ⟨rfl, hs⟩ := h99
    obtain ⟨x, y, rest, rfl, e1⟩ := b2L_some hs
    cases e1
    exact lv_ladd hx hb hd (kk _ hl rfl)
  case lsub =>
    have h99 := is1 (show (if len = 1 then _ else none) = some _ from hs); clear hs; obtain ⟨rfl, hs⟩ := h99
    obtain ⟨x, y, rest, rfl, e1⟩ := b2L_some hs
    cases e1
    exact lv_lsub hx hb hd (kk _ hl rfl)
  case lneg =>
    have h99 := is1 (show (if len = 1 then _ else none) = some _ from hs); clear hs; obtain ⟨rfl, hs⟩ := h99
    split at hs
    · cases hs
      exact lv_lneg hx hb hd (kk _ hl rfl)
    · cases hs
  case lcmp =>
    have h99 := is1 (show (if len = 1 then _ else none) = some _ from hs); clear hs; obtain ⟨rfl, hs⟩ := h99
    split at hs
    · cases hs
      exact W.lcmp hx hb hd (kk _ hl rfl)
    · cases hs
  case dup =>
    have h99 := is1 (show (if len = 1 then _ else none) = some _ from hs); clear hs; obtain ⟨rfl, hs⟩ := h99
    split at hs
    · rename_i v rest
      obtain ⟨h1, h2⟩ := is1 hs
      cases h2
      exact lv_dup hx hb hd (by rw [cnc_cat hε]; exact h1) (kk _ hl rfl)
    · cases hs
  case pop =>
    have h99 := is1 (show (if len = 1 then _ else none) = some _ from hs); clear hs; obtain ⟨rfl, hs⟩ := h99
    split at hs
    · rename_i v rest
      obtain ⟨h1, h2⟩ := is1 hs
      cases h2
      exact lv_pop hx hb hd (by rw [cnc_cat hε]; exact h1) (kk _ hl rfl)
    · cases hs
  case dup2 =>
    have h99 := is1 (show (if len = 1 then _ else none) = some _ from hs); clear hs; obtain ⟨rfl, hs⟩ := h99
    split at hs
    · rename_i v w rest
      obtain ⟨h1, h2⟩ := is1 hs
      cases h2
      exact lv_dup2_11 hx hb hd (by rw [cnc_cat hε]; exact h1.1) (by rw [cnc_cat hε]; exact h1.2) (kk _ hl rfl)
    · cases hs
  case if_icmp cd o =>
    have h99 := is1 (show (if len = 3 then _ else none) = some _ from hs); clear hs; obtain ⟨rfl, hs⟩ := h99
    split at hs
    · rename_i y x rest
      obtain ⟨t, h1, h2⟩ := is2 hs
      have ht := qjmp_some h1
      cases h2
      cases cd <;> simp only [cndB, decide_eq_true_eq] at kk
      · exact lv_icmp_eq hx hb hd ht (fun h => by have k2 := kk _ hl rfl; rwa [if_pos h] at k2) (fun h => by have k2 := kk _ hl rfl; rwa [if_neg h] at k2)
      · exact lv_icmp_ne hx hb hd ht (fun h => by have k2 := kk _ hl rfl; rwa [if_pos h] at k2) (fun h => by have k2 := kk _ hl rfl; rwa [if_neg (fun z => z h)] at k2)
      · exact lv_icmp_lt hx hb hd ht (fun h => by have k2 := kk _ hl rfl; rwa [if_pos h] at k2) (fun h => by have k2 := kk _ hl rfl; rwa [if_neg h] at k2)
      · exact lv_icmp_ge hx hb hd ht (fun h => by have k2 := kk _ hl rfl; rwa [if_pos h] at k2) (fun h => by have k2 := kk _ hl rfl; rwa [if_neg h] at k2)
      · exact lv_icmp_gt hx hb hd ht (fun h => by have k2 := kk _ hl rfl; rwa [if_pos h] at k2) (fun h => by have k2 := kk _ hl rfl; rwa [if_neg h] at k2)
      · exact lv_icmp_le hx hb hd ht (fun h => by have k2 := kk _ hl rfl; rwa [if_pos h] at k2) (fun h => by have k2 := kk _ hl rfl; rwa [if_neg h] at k2)
    · cases hs
  case ifCond cd o =>
    have h99 := is1 (show (if len = 3 then _ else none) = some _ from hs); clear hs; obtain ⟨rfl, hs⟩ := h99
    split at hs
    · rename_i x rest
      obtain ⟨t, h1, h2⟩ := is2 hs
      have ht := qjmp_some h1
      cases h2
      cases cd <;> simp only [cndB, decide_eq_true_eq] at kk
      · exact lv_if_eq hx hb hd ht (fun h => by have k2 := kk _ hl rfl; rwa [if_pos h] at k2) (fun h => by have k2 := kk _ hl rfl; rwa [if_neg h] at k2)
      · exact lv_if_ne hx hb hd ht (fun h => by have k2 := kk _ hl rfl; rwa [if_pos h] at k2) (fun h => by have k2 := kk _ hl rfl; rwa [if_neg (fun z => z h)] at k2)
      · exact lv_if_lt hx hb hd ht (fun h => by have k2 := kk _ hl rfl; rwa [if_pos h] at k2) (fun h => by have k2 := kk _ hl rfl; rwa [if_neg h] at k2)
      · exact lv_if_ge hx hb hd ht (fun h => by have k2 := kk _ hl rfl; rwa [if_pos h] at k2) (fun h => by have k2 := kk _ hl rfl; rwa [if_neg h] at k2)
      · exact lv_if_gt hx hb hd ht (fun h => by have k2 := kk _ hl rfl; rwa [if_pos h] at k2) (fun h => by have k2 := kk _ hl rfl; rwa [if_neg h] at k2)
      · exact lv_if_le hx hb hd ht (fun h => by have k2 := kk _ hl rfl; rwa [if_pos h] at k2) (fun h => by have k2 := kk _ hl rfl; rwa [if_neg h] at k2)
    · cases hs
  case ifnull o =>
    have h99 := is1 (show (if len = 3 then _ else none) = some _ from hs); clear hs; obtain ⟨rfl, hs⟩ := h99
    split at hs
    · obtain ⟨t, h1, h2⟩ := is2 hs
      cases h2
      exact lv_ifnullN hx hb hd (qjmp_some h1) (kk _ hl rfl)
    · rename_i r rest
      obtain ⟨h1, h2⟩ := is1 hs
      cases h2
      have e9 : cnc β ε (.inr (.inr (some r))) = .ref (β + qoff r) := by simp only [cnc]; rw [if_neg (by omega)]
      rw [List.map_cons, e9]
      exact lv_ifnull hx hb hd (kk _ hl rfl)
    · cases hs
  case ifnonnull o =>
    have h99 := is1 (show (if len = 3 then _ else none) = some _ from hs); clear hs; obtain ⟨rfl, hs⟩ := h99
    split at hs
    · cases hs
      exact lv_ifnonnullN hx hb hd (kk _ hl rfl)
    · rename_i r rest
      obtain ⟨h1, h2⟩ := is1 hs
      obtain ⟨t, h3, h4⟩ := is2 h2
      cases h4
      have e9 : cnc β ε (.inr (.inr (some r))) = .ref (β + qoff r) := by simp only [cnc]; rw [if_neg (by omega)]
      rw [List.map_cons, e9]
      exact lv_ifnonnull hx hb hd (qjmp_some h3) (kk _ hl rfl)
    · cases hs
  case goto o =>
    have h99 := is1 (show (if len = 3 then _ else none) = some _ from hs); clear hs; obtain ⟨rfl, hs⟩ := h99
    obtain ⟨t, h1, h2⟩ := is2 hs
    cases h2
    exact lv_goto hx hb hd (qjmp_some h1) (kk _ hl rfl)
  case tableswitch df lo hi os =>
    simp only [sA] at hs
    split at hs
    · rename_i x rest
      split at hs
      · rename_i h0
        obtain ⟨t, h1, h2⟩ := is2 hs
        cases h2
        exact lv_tableOut hx hb hd h0 (qjmp_some h1) (kk _ hl rfl)
      · rename_i h0
        split at hs
        · rename_i o ho
          obtain ⟨t, h1, h2⟩ := is2 hs
          cases h2
          exact lv_tableIn hx hb hd (fun z => h0 (Or.inl z)) (fun z => h0 (Or.inr z)) ho (qjmp_some h1) (kk _ hl rfl)
        · cases hs
    · cases hs
  case lookupswitch df ps =>
    simp only [sA] at hs
    split at hs
    · rename_i x rest
      obtain ⟨h0, hs⟩ := is1 hs
      obtain ⟨t, h1, h2⟩ := is2 hs
      cases h2
      exact lv_lookup hx hb hd h0 rfl (qjmp_some h1) (kk _ hl rfl)
    · cases hs
end SA
