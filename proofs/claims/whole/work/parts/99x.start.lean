/-! THE CLAIM OUT OF ONE WALK OF THE LAW'S BODY. Your part is whole_start (and what it stands on); all else here is the same for every law, but numbers. -/
def R_law : String := "LogLettersLaw"
def lw_P (b : Addr) (xs : List Int32) (args : Array Value) (s : State) : Prop := args = #[.ref b] ∧ s.IntsAt b xs ∧ xs.length ≤ 3072 ∧ (Jvm.Cond.and given_1 narrow_1).before args s = true
def lw_Q (_ : Array Value) (s : State) (o : Outcome) (t : State) : Prop := o = .returned (some (.int 1)) ∧ Framed s o t [] 600000 7302250
def lw_Z (below : List Frame) (a : Array Value) (s : State) : State → Prop := fun t => ∃ o, t.status = .running ∧ Ended t below o ∧ lw_Q a s o t
/-- the law's own end, with 1 on the stack, nothing written that was there before, its room as the claim has it -/
theorem lw_ret {p : Program} {l : Launch} {e : Env} {s : State} {m : MethodId} {below : List Frame} {meth : Method} {c : Code} {b : Nat} (hx : p.tables.exec = Jvm.exec) (hb : c.code = code) (hr : meth.sig.returnType = ret) (hlocks : meth.locks = false) {pc : Nat} {H : Heap} {ls : Array Slot} (hdg : decode code pc = .ok (.ireturn, 1)) : W p l e room_1 s m #[Value.ref b] below meth c H [] 600000 7302250 (lw_Z below #[Value.ref b] s) (F0 m pc ls [.int 1]) := by
  intro T hT X
  obtain ⟨fs, hret, hrun, hended, hW, hframe⟩ := X.leave (v := some (.int 1)) (hlocks := hlocks) (fun h => by rw [hr] at h; cases h)
  have hmeth' : T.vm.method? m = some meth := X.method'
  refine ⟨T.setFrames fs, ?_, .returned (some (.int 1)), hrun, hended, rfl, ⟨_, rfl⟩, hW, hframe⟩
  jvm_step X.here [X.here.top, hx, hb, hdg, hmeth', hr, ret, narrow_b1]
  (try refine ⟨rfl, ?_⟩); (try refine ⟨rfl, ?_⟩)
  first | (intro acts; rw [hret _ acts rfl rfl rfl]) | rw [hret _ _ rfl rfl rfl]
  exact Steps.refl _
/-- what holds at the law's entry: the machine, the code, the tables' words (any of lw_tbl by 'hts w (by decide +kernel)'), the script of L ints xs at the cell b, what the Statement gives of the start (any of its parts by flat_of_before) -/
def lw_At (p : Program) (s : State) (m : MethodId) (meth : Method) (c : Code) (b L : Nat) (xs : Nat → Int32) : Prop :=
  p.tables.exec = Jvm.exec ∧ c.code = code ∧ meth.sig.returnType = ret ∧ c.maxLocals = 4 ∧ s.vm.findClass R_law = some m.cls ∧ (∀ w ∈ lw_tbl, w.before #[Value.ref b] s = true) ∧ va_X b L xs s s.heap ∧ b < s.heap.size ∧ meth.locks = false ∧ (Jvm.Cond.and given_1 narrow_1).before #[Value.ref b] s = true
theorem cl_inst : (List.range 9).all (fun ci => match vwCl[ci]? with
  | some q => decide (Jvm.Cond.instantiable q.1 q.2.2 ∈ lw_tbl)
  | none => false) = true := by decide +kernel
def nrL : List Jvm.Cond := flatC (Jvm.Cond.and given_1 narrow_1)
def sTm (i : Nat) : Jvm.Term := .string RX2 (strs.getD i (0, "")).1
theorem s_ex : (List.range 6).all (fun i => decide (Jvm.Cond.exactly (sTm i) "java/lang/String" ∈ nrL)) = true := by decide +kernel
theorem s_co : (List.range 6).all (fun i => decide (Jvm.Cond.eq (.field (sTm i) "java/lang/String" "coder" "B") (.int 0) ∈ nrL)) = true := by decide +kernel
theorem s_ar : (List.range 6).all (fun i => decide (Jvm.Cond.arrayOf (.field (sTm i) "java/lang/String" "value" "[B") .byte ∈ nrL)) = true := by decide +kernel
theorem s_le : (List.range 6).all (fun i => decide (Jvm.Cond.eq (.length (.field (sTm i) "java/lang/String" "value" "[B")) (.int (Int32.ofNat (slen.getD i 0))) ∈ nrL)) = true := by decide +kernel
theorem s_el : (List.range 6).all (fun i => (List.range (slen.getD i 0)).all (fun j => decide (Jvm.Cond.eq (.elem (.field (sTm i) "java/lang/String" "value" "[B") (.int (Int32.ofNat j))) (.int ((sbyt.getD i []).getD j 0)) ∈ nrL))) = true := by decide +kernel
theorem s_ne : (List.range 6).all (fun i => (List.range 6).all (fun j => decide (i = j) || (decide (Jvm.Cond.not (Jvm.Cond.eq (sTm i) (sTm j)) ∈ nrL) || decide (Jvm.Cond.not (Jvm.Cond.eq (sTm j) (sTm i)) ∈ nrL)))) = true := by decide +kernel
theorem s_re : (List.range 6).all (fun i => decide (Jvm.Cond.stringRef RX2 (strs.getD i (0, "")).1 (strs.getD i (0, "")).2 ∈ lw_tbl)) = true := by decide +kernel
theorem a_el : (List.range 6).all (fun j => decide (Jvm.Cond.eq (.elem (.static "LogLetters" "ABOVE" "[I") (.int (Int32.ofNat j))) (.int (sabv.getD j 0)) ∈ nrL)) = true := by decide +kernel
theorem all_at {n : Nat} {f : Nat → Bool} (h : (List.range n).all f = true) {i : Nat} (hi : i < n) : f i = true := List.all_eq_true.mp h i (List.mem_range.mpr hi)
theorem arr_ok : (List.range 4).all (fun j => decide (Jvm.Cond.arrayClass (aty (10 + j)) ∈ lw_tbl)) = true := by decide +kernel
theorem arq_ok : (List.range 4).all (fun j => decide (Jvm.Cond.arrayOver (aty (14 + j)) ∈ lw_tbl)) = true := by decide +kernel
set_option maxHeartbeats 4000000 in
theorem cx_start {s : State} {b L : Nat} {xs : Nat → Int32} (hts : ∀ w ∈ lw_tbl, w.before #[Value.ref b] s = true) (hX : va_X b L xs s s.heap) (hbl : b < s.heap.size) (hgv : (Jvm.Cond.and given_1 narrow_1).before #[Value.ref b] s = true) : ∃ (D : va_G) (cs : Nat → ClassId) (X : Xp), X.1 = (b, L, xs) ∧ Cx s.heap.size D cs X s := by
  have hn : ∀ w ∈ nrL, w.before #[Value.ref b] s = true := flat_of_before _ hgv
  have hA : ∀ a : Nat, a < s.heap.size → ¬ Ax s.heap.size a := fun a h z => Nat.not_le.mpr h z
  have h0 : ∀ ci : Nat, ∃ q : ClassId × (Nat → Nat), ∀ r : vw_C, vwCl[ci]? = some r → u_Kn s r.1 r.2.1 r.2.2 q.1 q.2 := by
    intro ci
    cases hr : vwCl[ci]? with
    | none => exact ⟨(0, fun _ => 0), fun r h => by cases h⟩
    | some r =>
      have h9 : ci < 9 := (List.getElem?_eq_some_iff.mp hr).1
      obtain ⟨C, T, N⟩ := r
      obtain ⟨hN, hin⟩ := cl_spec hr h9
      have hi := all_at cl_inst h9
      simp only [hr, decide_eq_true_eq] at hi
      obtain ⟨cC, iS, hk⟩ := u_known (C := C) (T := T) (N := N) (n := N) (ws := gTb) (fun w hw => hts w (List.mem_filter.mp hw).1) hin (hts _ hi)
      exact ⟨(cC, iS), fun r h => by cases h; exact hk⟩
  obtain ⟨dd, hdd⟩ := Classical.axiomOfChoice h0
  have h1 : ∀ k : Nat, ∃ cA : ClassId, 10 ≤ k → k < 18 → ArrOfT s cA (aty k) ∧ va_RA s cA (aty k) := by
    intro k
    by_cases hk : 10 ≤ k ∧ k < 14
    · have hw := of_decide_eq_true (all_at arr_ok (i := k - 10) (by omega))
      rw [show 10 + (k - 10) = k by omega] at hw
      obtain ⟨cA, kA, comp, f1, f2, f3⟩ := Cond.arrayClass_spec (hts _ hw)
      refine ⟨cA, fun _ _ => ⟨fun n z => ⟨fun k h => (by cases h), kA, f2, comp, f3⟩, ?_⟩⟩
      have h : k = 10 ∨ k = 11 ∨ k = 12 ∨ k = 13 := by omega
      rcases h with rfl | rfl | rfl | rfl <;> exact f1
    · by_cases hk2 : 14 ≤ k ∧ k < 18
      · have hw := of_decide_eq_true (all_at arq_ok (i := k - 14) (by omega))
        rw [show 14 + (k - 14) = k by omega] at hw
        obtain ⟨r, -, hty, -⟩ := aty_obj hk2.1 hk2.2
        rw [hty] at hw ⊢
        obtain ⟨comp, cA, kA, f1, -, f2, f3, f4⟩ := Cond.arrayOver_spec (hts _ hw)
        exact ⟨cA, fun _ _ => ⟨fun n z => ⟨fun k h => (by cases h), kA, f2, comp, f3⟩, kA, comp, f2, f3, f1, f4⟩⟩
      · exact ⟨0, fun a b => by omega⟩
  obtain ⟨cs, hcs⟩ := Classical.axiomOfChoice h1
  have hK : va_K (fun ci => (dd ci).1, fun ci => (dd ci).2) vwCl (tysO cs) s := by
    refine ⟨fun c q hq => hdd c q hq, fun k q hk => ?_⟩
    have hl : k < 8 := by
      have := (List.getElem?_eq_some_iff.mp hk).1
      simpa [tysO] using this
    have e := tysO_at (cs := cs) (k := 10 + k) (by omega) (by omega)
    rw [show 10 + k - 10 = k by omega] at e
    cases e.symm.trans hk
    exact hcs (10 + k) (by omega) (by omega)
  obtain ⟨ab, hab, hT⟩ := va_Tof (s := s) (A := Ax s.heap.size) (tm := .static "LogLetters" "ABOVE" "[I") (ty := .int) (N := 6) (f := fun j => .int (sabv.getD j 0)) (by decide) (hn _ (by decide +kernel)) (va_eqt (hn (.eq (.length (.static "LogLetters" "ABOVE" "[I")) (.int 6)) (by decide +kernel))) (fun j hj => va_eqt (hn _ (of_decide_eq_true (all_at a_el hj)))) hA
  have hZ := va_Zof (s := s) (A := Ax s.heap.size) (hts (.laysStatic "LogLetters" "ABOVE" "[I") (by decide +kernel)) (hts _ (by decide +kernel)) hab hA
  have hZc := va_Zof (s := s) (A := Ax s.heap.size) (hts (.laysStatic "java/lang/String" "COMPACT_STRINGS" "Z") (by decide +kernel)) (hts _ (by decide +kernel)) (va_eqi (hn (.eq (.static "java/lang/String" "COMPACT_STRINGS" "Z") (.int 1)) (by decide +kernel))) hA
  have hZs := va_Zqof (s := s) (A := Ax s.heap.size) (hts (.laysStatic "jdk/internal/util/Preconditions" "SIOOBE_FORMATTER" "Ljava/util/function/BiFunction;") (by decide +kernel)) (hts _ (by decide +kernel)) (hn _ (by decide +kernel)) hA
  obtain ⟨fm, hfm, hZs⟩ : ∃ fm : Value, (fm = .null ∨ ∃ a, fm = .ref a) ∧ va_Z "jdk/internal/util/Preconditions" "SIOOBE_FORMATTER" "Ljava/util/function/BiFunction;" fm (Ax s.heap.size) s s.heap := by
    rcases hZs with h | ⟨t, h⟩
    · exact ⟨.null, Or.inl rfl, h⟩
    · exact ⟨.ref t, Or.inr ⟨t, rfl⟩, h⟩
  obtain ⟨adK, adV, hST, hadK⟩ := vk_Sof (s := s) (args := #[Value.ref b]) (A := Ax s.heap.size) (N := 6) (tm := sTm) (len := slen) (byt := sbyt) (by decide) (fun i hi => hn _ (of_decide_eq_true (all_at s_ex hi))) (fun i hi => hn _ (of_decide_eq_true (all_at s_co hi))) (fun i hi => hn _ (of_decide_eq_true (all_at s_ar hi))) (fun i hi => hn _ (of_decide_eq_true (all_at s_le hi))) (fun i hi j hj => hn _ (of_decide_eq_true (all_at (all_at s_el hi) hj))) (fun i j hi hj hij => by
      have h := all_at (all_at s_ne hi) hj
      simp only [Bool.or_eq_true, decide_eq_true_eq] at h
      rcases h with h | h | h
      · exact absurd h hij
      · exact Or.inl (hn _ h)
      · exact Or.inr (hn _ h)) hA
  refine ⟨(fun ci => (dd ci).1, fun ci => (dd ci).2), cs, ((b, L, xs), ab, adK, adV, fm), rfl, hK, hX, hbl, Nat.le_refl _, hZ, hT, hZc, hZs, hST, fun i hi => vk_R.of (hts _ (of_decide_eq_true (all_at s_re hi))) (hadK i hi), fun a i x h hh => (va_Nw.of rfl (hts _ hh)), fun a i b n d h hh => (va_Nw.of rfl (hts _ hh)), fun C hh => va_AO.of (hts _ hh), hfm⟩
theorem whole_start {p : Program} {e : Env} {s : State} {m : MethodId} {below : List Frame} {meth : Method} {c : Code} (l : Launch) (hflags : l.flags = flags0) {b L : Nat} {xs : Nat → Int32} (hL : L ≤ 3072) (C0 : lw_At p s m meth c b L xs) : W p l e room_1 s m #[Value.ref b] below meth c s.heap [] 0 0 (lw_Z below #[Value.ref b] s) (entryFrame m ([Value.ref b] : List Value).toArray 4) := by
  obtain ⟨hx, hb, hr, hml, hown, hts, hX, hbl, hlocks, hgv⟩ := id C0
  obtain ⟨D, cs, X, hX1, hC⟩ := cx_start hts hX hbl hgv
  have hfm := hC.2.2.2.2.2.2.2.2.2.2.2.2.2
  have hε := xE_ok hfm
  have hb0 : b = X.1.1 := by rw [hX1]
  have hXs : X.1.2.2 = xs := by rw [hX1]
  have hXL : X.1.2.1 = L := by rw [hX1]
  obtain ⟨n, σ', hrun, hc1, hc2⟩ := law_pure L hL xs
  have hl := LvR_entry (β := s.heap.size) hε (as := [vR 0 0 0]) (n := 4) (by decide) (by simp [qcat])
  have e0 : ([vR 0 0 0] : List Av).map (cnc s.heap.size (xE X)) = [Value.ref b] := by
    rw [List.map_cons, cnc_x0, ← hb0]; rfl
  rw [e0] at hl
  rw [lg_entry_eq]
  generalize (lg_sl [Value.ref b] ++ List.replicate (4 - (lg_sl [Value.ref b]).length) Slot.unset).toArray = ls at hl ⊢
  have hE : exO X (st0 L xs) := fun r hr => by rw [hXs, hXL]; exact st0_ex L xs r hr
  have hP : va_P D vwCl (wsO s.heap.size cs (xE X) (st0 L xs)) s.heap := fun k q h => by
    have := (wsO_ix h).1
    exact absurd this (Nat.not_lt_zero k)
  refine snd_all n 14 ML_law 0 (qent [vR 0 0 0] 4) [] (st0 L xs) (some (vI 1)) σ' hrun p e room_1 s m _ below meth c s.heap [] 0 0 _ ls hx hb (by rw [hml, hl.1]; rfl) (fun h => absurd h (by decide)) (fun w hw => hts w (List.mem_filter.mp hw).1) hown hC hl hP va_S.rf hE rfl (by decide) (by decide) (show 0 + σ'.2.2.1 ≤ 600000 + 0 by omega) (show 0 + σ'.2.2.2 ≤ 7302250 + 0 by omega) ?_
  intro k q i pc' ls' st' H' locs' hk hq hd hsE hP' hS'
  obtain ⟨-, hsE⟩ := sE_spec hsE
  have hk : σ'.2.2.1 = 0 + k := hk
  have hq : σ'.2.2.2 = 0 + q := hq
  rcases hsE with ⟨rfl, h2, rfl, h3⟩ | ⟨ty, y, rfl, h2, rfl, h4, h3⟩ | ⟨y, rfl, h2, rfl, h3⟩ | ⟨ty, r, rfl, h2, h5, rfl, h3⟩
  · cases h3
  · cases h3
    refine va_forget hS'.2.2 ?_
    refine W.widen (k := 600000) (n := 7302250) (by omega) (by omega) ?_
    exact lw_ret hx hb hr hlocks hd
  · cases h3
  · cases h3
-- ===== YOUR PART ENDS =====
set_option maxHeartbeats 4000000 in
theorem lw_walk (l : Launch) (hflags : l.flags = flags0) (b : Addr) (xs : List Int32) : MetFree l x (headSpec (Jvm.Cond.code x code maxLocals ret :: tables_1) room_1) (lw_P b xs) (fun _ _ _ _ _ => True) lw_Q := by
  refine MetFree.of_bodyS (code := code) (maxLocals := maxLocals) (ret := ret) (by decide) ?_ ?_
  · intro args s m h hn
    obtain ⟨meth, c, h1, h2, h3, h4, h5, h6, -, -⟩ := Cond.code_spec hn (atoms_spec (ws := Jvm.Cond.code x code maxLocals ret :: tables_1) h _ List.mem_cons_self)
    exact ⟨meth, c, h1, h2, h3, h4, h5, h6⟩
  · intro p e s m args below meth c s₁ B hml0 hP _
    obtain ⟨rfl, hx, hbd, hgv⟩ := hP
    obtain ⟨scr, harrAt, hlist, hof, hsmall⟩ := hx
    obtain ⟨hcb, hkn, -, -⟩ := State.arrayAt?_spec harrAt
    have hown : s.vm.findClass R_law = some m.cls := findClass_of_methodNamed B.named
    have hts0 : ∀ c ∈ (Jvm.Cond.code x code maxLocals ret :: tables_1), c.before #[Value.ref b] s = true := atoms_spec (ws := Jvm.Cond.code x code maxLocals ret :: tables_1) B.pre
    have hts : ∀ w ∈ lw_tbl, w.before #[Value.ref b] s = true := k2_hts_sels lw_privs (fun w hw => hts0 w (List.mem_cons_of_mem _ hw)) lw_privs_ok
    have hml : c.maxLocals = 4 := B.maxLocals_eq (hts0 _ List.mem_cons_self)
    have X₀ : Stand p l e room_1 s m #[Value.ref b] below meth c s₁ [] 0 0 := Stand.of_body B
    have hh0 : s₁.heap = s.heap := by rw [B.state]; rfl
    have hsz : scr.slots.size = xs.length := by rw [← Array.length_toList, hlist, List.length_map]
    have hval : ∀ j : Nat, j < xs.length → scr.slots[j]? = some (.int (xs.getD j 0)) := fun j hj => by
      rw [← Array.getElem?_toList, hlist]
      simp [hj]
    have hbl : b < s.heap.size := (Array.getElem?_eq_some_iff.mp hcb).1
    have hX : va_X b xs.length (fun j => xs.getD j 0) s s.heap := ⟨scr, hcb, hof, hkn, hsz, hval⟩
    have K : W p l e room_1 s m #[Value.ref b] below meth c s₁.heap [] 0 0 (lw_Z below #[Value.ref b] s) (entryFrame m ([Value.ref b] : List Value).toArray 4) := by
      rw [hh0]
      exact whole_start l hflags hbd ⟨B.exec, B.bytes, B.returns, hml, hown, hts, hX, hbl, B.notSynchronized, hgv⟩
    obtain ⟨t, a1, o, b1, b2, b3⟩ := K s₁ rfl X₀
    exact ⟨t, o, a1, b1, b2, b3⟩
theorem lw_pre_spec {args : Array Value} {s : State} (h : (Jvm.Cond.and given_1 narrow_1).before args s = true) (hr : rest_1_c.before args s = true) : ∃ (b : Addr) (xs : List Int32), lw_P b xs args s := by
  have hs := flat_of_before _ h
  have hq := flat_of_before _ hr
  have hc : (Cond.count 1).before args s = true := hs _ (by decide +kernel)
  have harr : (Cond.arrayOf (.arg 0) .int).before args s = true := hs _ (by decide +kernel)
  have hle : (Cond.le (.length (.arg 0)) (.int 3072)).before args s = true := hs _ (by decide +kernel)
  have hlen : (Cond.isInt (.length (.arg 0))).before args s = true := hq _ (by decide +kernel)
  have hall : (Cond.all (.arg 0) (.isInt (.elem (.arg 0) (.index 0)))).before args s = true := hq _ (by decide +kernel)
  obtain ⟨b, xs, hb, hx⟩ := State.ints_of_pre rfl harr hlen hall
  have hsm : xs.length < 2 ^ 31 := hx.choose_spec.2.2.2
  have hev : (Term.length (.arg 0)).eval args s none [] s = some (.int xs.length.toInt32) := hx.length_eval hb
  have hv := Cond.le_ints hev (show (Term.int 3072).eval args s none [] s = some (.int 3072) from rfl)
  have hd : xs.length.toInt32 ≤ 3072 := by
    simpa [Cond.before, Cond.holds, hv] using hle
  have hN : xs.length ≤ 3072 := (Int32.ofNat_le_ofNat hsm (by decide)).mp (show Int32.ofNat xs.length ≤ Int32.ofNat 3072 from hd)
  exact ⟨b, xs, Cond.one_arg hc (show args[0]? = some (.ref b) from hb), hx, hN, h⟩
theorem lw_comes (l : Launch) (hflags : l.flags = flags0) : Comes l x (Jvm.Cond.code x code maxLocals ret :: tables_1) room_1 (fun tb e args s => Calls_1 tb e args s ∧ rest_1 tb e args s ∧ Pre_1 tb e args s)
    (fun _ _ args s o t => lw_Q args s o t) := by
  intro p e ha hc hk s m args below hf hfit hheap happ hpre
  obtain ⟨b, xs, hP⟩ := lw_pre_spec hpre.2.2 hpre.2.1
  obtain ⟨k, o, h1, h2, h3, hQ⟩ := lw_walk l hflags b xs p e ha hc hk s m args below hf ((Spec.applies_iff_loose hf).mp happ).1 hP trivial
  exact ⟨k, o, h1, h2, h3, hQ⟩
theorem lw_frame {s t : State} {o : Outcome} {args : Array Value} (h : Framed s o t [] 600000 7302250) :
    Framed s o t (fieldLocs frame_1_writes args s ++ arrayLocs frame_1_arrays args s ++ staticLocs frame_1_statics s) 600000 7302250 := h
theorem lw_limb (L : Cond) (hL : ∀ (args : Array Value) (s t : State), L.after args s (.returned (some (.int 1))) t = true) :
    ArmFor flags0 classFile x code maxLocals ret World_1 tables_1 room_1 Calls_1 rest_1 Pre_1
      (fun tb e a s o t => postC L tb e a s o t ∧ Framed s o t (fieldLocs frame_1_writes a s ++ arrayLocs frame_1_arrays a s ++ staticLocs frame_1_statics s) 600000 7302250) := by
  intro l hflags _ _ p e ha hc hk s m args below hf hfit hheap happ hpre
  obtain ⟨k, o, h1, h2, h3, rfl, hF⟩ := lw_comes l hflags p e ha hc hk s m args below hf hfit hheap happ hpre
  exact ⟨k, _, h1, h2, h3, hL args s _, lw_frame hF⟩
theorem i_vc : Claimed_1_1 ∧ Claimed_1_2 := ⟨lw_limb limb_1_1 (fun args s t => by simp [limb_1_1, Cond.after, Cond.holds, Cond.value]), lw_limb limb_1_2 (fun args s t => Cond.after_iff.mpr (by
  first | (rw [show limb_1_2 = Cond.eq .result (.int 1) from rfl, Cond.eq_ints (x := 1) (y := 1) rfl rfl]; simp; done) | (simp [limb_1_2, Cond.value, Term.eval]; done)))⟩
