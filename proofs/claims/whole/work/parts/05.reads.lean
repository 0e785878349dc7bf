/-! SOUNDNESS, 3: the steps that read cells -/
theorem cnc_own {β : Nat} {ε : Rf → Value} {r : Rf} (h : 5 ≤ r.1) : cnc β ε (.inr (.inr (some r))) = .ref (β + qoff r) := by
  simp only [cnc]; rw [if_neg (by omega)]
theorem cnc_x0 {β : Nat} {X : Xp} : cnc β (xE X) (vR 0 0 0) = .ref X.1.1 := by simp [cnc, xE]
theorem cnc_x1 {β : Nat} {X : Xp} : cnc β (xE X) (vR 1 0 0) = .ref X.2.1 := by simp [cnc, xE]
theorem cnc_x2 {β : Nat} {X : Xp} {i : Nat} (h : i < 6) : cnc β (xE X) (vR 2 i 0) = .ref (X.2.2.1 i) := by simp [cnc, xE, h]
theorem cnc_x3 {β : Nat} {X : Xp} {i : Nat} (h : i < 6) : cnc β (xE X) (vR 3 i 0) = .ref (X.2.2.2.1 i) := by simp [cnc, xE, h]
theorem cnc_x4 {β : Nat} {X : Xp} : cnc β (xE X) (vR 4 0 0) = X.2.2.2.2 := by simp [cnc, xE]
theorem cnc_aR {β : Nat} {ε : Rf → Value} {v : Av} : cnc β ε (.inr (.inr (aR v))) = va_rf ((aR v).map fun q => β + qoff q) := by
  unfold aR
  split
  · rename_i q
    by_cases h : 5 ≤ q.1
    · rw [if_pos h, cnc_own h]; rfl
    · rw [if_neg h]; rfl
  · rfl
theorem vin {x : Int32} {n : Nat} (h1 : 0 ≤ x) (h2 : x.toNatClampNeg < n) : vp_in x n := by
  intro h
  rcases h with h | h
  · exact absurd h (Int32.not_lt.mpr h1)
  · omega
theorem fStr_spec {own : String} {k q : Nat} (h : fStr own k = some q) : own = RX2 ∧ q < 6 ∧ (strs.getD q (0, "")).1 = k := by
  unfold fStr at h
  obtain ⟨h1, h2⟩ := is1 h
  rw [List.findIdx?_eq_some_iff_getElem] at h2
  obtain ⟨hl, hp, -⟩ := h2
  have hl6 : q < 6 := hl
  refine ⟨h1, hl6, ?_⟩
  rw [List.getD_eq_getElem?_getD, List.getElem?_eq_getElem hl]
  simpa using hp
theorem fCst_spec {own : String} {i : Nat} {v : Int32} (h : fCst own i = some v) : okw (.constant own i v) = true := by
  unfold fCst at h
  split at h
  · replace h := is1 h
    obtain ⟨h1, h⟩ := h
    cases h
    exact tat_okw h1
  · cases h
theorem sta_spec {own : String} {i : Nat} {v : Av} (h : sta own i = some v) : (v = vI 1 ∧ okw (.fieldLink own i "java/lang/String" "COMPACT_STRINGS" "Z") = true) ∨ (v = vR 4 0 0 ∧ okw (.fieldLink own i "jdk/internal/util/Preconditions" "SIOOBE_FORMATTER" "Ljava/util/function/BiFunction;") = true) ∨ (v = vR 1 0 0 ∧ ∃ hst, Jvm.Cond.fieldLinkNest own i "LogLetters" "ABOVE" "[I" hst ∈ lw_tbl) := by
  unfold sta at h
  split at h
  · split at h
    · rename_i hc
      cases h
      exact Or.inl ⟨rfl, tat_okw hc.2⟩
    · split at h
      · rename_i hc
        cases h
        exact Or.inr (Or.inl ⟨rfl, tat_okw hc.2⟩)
      · replace h := is1 h
        obtain ⟨hc, h⟩ := h
        cases h
        exact Or.inr (Or.inr ⟨rfl, _, List.mem_of_getElem? hc.2⟩)
  · cases h
theorem okx_spec {r : Rf} (h : okx r = true) : r = (0, 0, 0) ∨ r = (1, 0, 0) ∨ ∃ i, i < 6 ∧ r = (3, i, 0) := by
  unfold okx at h
  rcases of_decide_eq_true h with h | h | ⟨h1, h2, h3⟩
  · exact Or.inl h
  · exact Or.inr (Or.inl h)
  · refine Or.inr (Or.inr ⟨r.2.1, h2, ?_⟩)
    obtain ⟨a, b, c⟩ := r
    simp only at h1 h3
    subst h1; subst h3; rfl
theorem oks_spec {r : Rf} (h : oks r = true) : ∃ i, i < 6 ∧ r = (2, i, 0) := by
  unfold oks at h
  obtain ⟨h1, h2, h3⟩ := of_decide_eq_true h
  refine ⟨r.2.1, h2, ?_⟩
  obtain ⟨a, b, c⟩ := r
  simp only at h1 h3
  subst h1; subst h3; rfl
theorem rdA_some {ks : List Nat} {len pc pc' : Nat} {st st' : List Av} {σ : St} (h : rdA ks len pc st σ = some (pc', st')) : len = 1 ∧ ∃ x r rest, st = vI x :: .inr (.inr (some r)) :: rest ∧ kd r.1 ∈ ks ∧ (okr σ r = true ∨ okx r = true) ∧ 0 ≤ x ∧ x.toNatClampNeg < σ.2.1 r ∧ pc' = pc + 1 ∧ st' = vI (aI (σ.1 r x.toNatClampNeg)) :: rest := by
  unfold rdA at h
  replace h := is1 h
  obtain ⟨h0, h⟩ := h
  split at h
  · rename_i x r rest
    replace h := is1 h
    obtain ⟨⟨h1, h2, h3, h4⟩, h⟩ := h
    cases h
    exact ⟨h0, x, r, rest, rfl, h1, Bool.or_eq_true_iff.mp h2, h3, h4, rfl, rfl⟩
  · cases h
theorem rdR_some {len pc pc' : Nat} {st st' : List Av} {σ : St} (h : rdR len pc st σ = some (pc', st')) : len = 1 ∧ ∃ x r rest, st = vI x :: .inr (.inr (some r)) :: rest ∧ 14 ≤ kd r.1 ∧ kd r.1 < 18 ∧ okr σ r = true ∧ 0 ≤ x ∧ x.toNatClampNeg < σ.2.1 r ∧ pc' = pc + 1 ∧ st' = .inr (.inr (aR (σ.1 r x.toNatClampNeg))) :: rest := by
  unfold rdR at h
  replace h := is1 h
  obtain ⟨h0, h⟩ := h
  split at h
  · rename_i x r rest
    replace h := is1 h
    obtain ⟨⟨h1, h2, h3, h4, h5⟩, h⟩ := h
    cases h
    exact ⟨h0, x, r, rest, rfl, h1, h2, h3, h4, h5, rfl, rfl⟩
  · cases h
theorem aty_obj {k : Nat} (h1 : 14 ≤ k) (h2 : k < 18) : ∃ r : vw_C, vwCl[ecl k]? = some r ∧ aty k = .object r.1 ∧ ecl k < 9 := by
  have h : k = 14 ∨ k = 15 ∨ k = 16 ∨ k = 17 := by omega
  rcases h with rfl | rfl | rfl | rfl
  · exact ⟨_, rfl, rfl, by decide⟩
  · exact ⟨_, rfl, rfl, by decide⟩
  · exact ⟨_, rfl, rfl, by decide⟩
  · exact ⟨_, rfl, rfl, by decide⟩
section SB
variable {p : Program} {lc : Launch} {e : Env} {R : Room} {s : State} {m : MethodId} {args : Array Value} {below : List Frame} {meth : Method} {c : Code} {H : Heap} {locs : List Loc} {cells slots : Nat} {Q : State → Prop}
variable {β : Nat} {D : va_G} {cs : Nat → ClassId} {X : Xp}
set_option maxHeartbeats 4000000 in
set_option maxRecDepth 20000 in
theorem sB_ok {own : String} {cc : ByteArray} {i : Instr} {len pc pc' : Nat} {st st' : List Av} {σ : St} {ls : Array Slot} (hx : p.tables.exec = Jvm.exec) (hb : c.code = cc) (hts : ∀ w ∈ gTb, w.before args s = true) (hown : s.vm.findClass own = some m.cls) (hC : Cx β D cs X s) (hP : va_P D vwCl (wsO β cs (xE X) σ) H) (hS : va_S (Ax β) s.heap H locs) (hE : exO X σ)
    (hd : decode cc pc = .ok (i, len)) (hs : sB own i len pc st σ = some (pc', st'))
    (kk : W p lc e R s m args below meth c H locs cells slots Q (F0 m pc' ls (st'.map (cnc β (xE X))))) : W p lc e R s m args below meth c H locs cells slots Q (F0 m pc ls (st.map (cnc β (xE X)))) := by
  obtain ⟨hK, hX, hb3, hb4, hZa, hTa, hZc, hZs, hST, hR, hNm, hNf, hAO, hfm⟩ := hC
  have hbA : ¬ Ax β X.1.1 := fun z => Nat.not_le.mpr hb3 z
  have hbl : X.1.1 < s.heap.size := Nat.lt_of_lt_of_le hb3 hb4
  cases i <;> first | (cases hs; done) | skip
  case ldc k =>
    have h99 := is1 (show (if len = 2 then _ else none) = some _ from hs); clear hs; obtain ⟨rfl, hs⟩ := h99
    split at hs
    · rename_i v hv
      cases hs
      exact lv_ldc hx hb hown (hts _ (okw_in (fCst_spec hv))) hd kk
    · split at hs
      · rename_i q hq
        cases hs
        obtain ⟨h1, h2, h3⟩ := fStr_spec hq
        subst h1
        rw [List.map_cons, cnc_x2 h2] at kk
        have h4 := hR q h2
        rw [h3] at h4
        exact va_ldcS hx hb hown h4 hd kk
      · cases hs
  case ldc_w k =>
    have h99 := is1 (show (if len = 3 then _ else none) = some _ from hs); clear hs; obtain ⟨rfl, hs⟩ := h99
    split at hs
    · rename_i v hv
      cases hs
      exact lv_ldcw hx hb hown (hts _ (okw_in (fCst_spec hv))) hd kk
    · cases hs
  case getfield k =>
    have h99 := is1 (show (if len = 3 then _ else none) = some _ from hs); clear hs; obtain ⟨rfl, hs⟩ := h99
    split at hs
    · rename_i r rest ci q hf
      obtain ⟨⟨hk, hor⟩, h⟩ := is1 hs
      cases h
      obtain ⟨ref, n, d, hlk, hcase⟩ := fld_spec hf
      rcases hor with ⟨h9, hok⟩ | ⟨h20, hok⟩
      · rcases hcase with ⟨z, -⟩ | ⟨z, -⟩ | ⟨-, T, N, hcl, hq, e1, e2, e3⟩
        · omega
        · omega
        · obtain ⟨hN, hin⟩ := cl_spec hcl h9
          subst e2; subst e3
          rw [List.map_cons, cnc_own (okr_spec hok).1]
          rw [List.map_cons] at kk
          have he := wsO_at (β := β) (cs := cs) (ε := xE X) hok
          rw [ent_obj hk h9] at he
          exact va_get hx hb hts hin hown hK hP _ he hcl q hq (hts _ (okw_in hlk)) (fun x hx => by rw [← e1]; exact hx) (by rw [List.getElem?_map, List.getElem?_range (by omega)]; rfl) hd kk
      · obtain ⟨j, hj, rfl⟩ := oks_spec hok
        rw [List.map_cons, cnc_x2 hj]
        rw [List.map_cons, (hE (2, j, 0) (show (2 : Nat) < 5 by omega)).1] at kk
        obtain ⟨-, hco, hva, -⟩ := hST.1 j hj
        rcases hcase with ⟨-, rfl, rfl, rfl, rfl⟩ | ⟨-, rfl, rfl, rfl, rfl⟩ | ⟨z, -⟩
        · exact vk_getf hx hb hco hS hown (hts _ (okw_in hlk)) (fun _ h => h) hd kk
        · rw [show xH X.1.2.2 (2, j, 0) 1 = vR 3 j 0 from rfl, cnc_x3 hj] at kk
          exact vk_getf hx hb hva hS hown (hts _ (okw_in hlk)) (fun _ h => h) hd kk
        · omega
    · cases hs
  case getstatic k =>
    have h99 := is1 (show (if len = 3 then _ else none) = some _ from hs); clear hs; obtain ⟨rfl, hs⟩ := h99
    split at hs
    · rename_i v hv
      cases hs
      rw [List.map_cons] at kk
      rcases sta_spec hv with ⟨rfl, hk⟩ | ⟨rfl, hk⟩ | ⟨rfl, hst, hk⟩
      · exact va_gets hx hb hZc hS hown (hts _ (okw_in hk)) (fun _ h => h) hd kk
      · rw [cnc_x4] at kk
        exact va_gets hx hb hZs hS hown (hts _ (okw_in hk)) (fun _ h => h) hd kk
      · rw [cnc_x1] at kk
        exact va_getsN hx hb hZa hS hown ((hNf _ _ _ _ _ _ hk).use rfl) (fun _ h => h) hd kk
    · cases hs
  case iaload =>
    obtain ⟨rfl, x, r, rest, rfl, hk, hor, h0, h1, rfl, rfl⟩ := rdA_some hs
    have hk : kd r.1 = 10 := by simpa using hk
    rw [List.map_cons, List.map_cons]
    rw [List.map_cons] at kk
    rcases hor with hok | hok
    · rw [cnc_own (okr_spec hok).1]
      have he := wsO_at (β := β) (cs := cs) (ε := xE X) hok
      rw [ent_int hk (by omega) (by omega)] at he
      exact va_iald hx hb hK hP _ (10 - 10) he (tysO_at (by omega) (by omega)) (vin h0 h1) hd kk
    · rcases okx_spec hok with rfl | rfl | ⟨j, hj, rfl⟩
      · obtain ⟨q1, q2⟩ := hE (0, 0, 0) (by decide)
        rw [cnc_x0]
        rw [q1] at kk
        rw [q2] at h1
        exact va_sld hx hb hX hbl hbA hS (vin h0 h1) hd kk
      · obtain ⟨q1, q2⟩ := hE (1, 0, 0) (by decide)
        rw [cnc_x1]
        rw [q1] at kk
        rw [q2] at h1
        exact va_ti hx hb hTa hS (vin h0 h1) rfl hd kk
      · exact absurd hk (by show ¬ kd 3 = 10; decide)
  case baload =>
    obtain ⟨rfl, x, r, rest, rfl, hk, hor, h0, h1, rfl, rfl⟩ := rdA_some hs
    have hk : kd r.1 = 11 ∨ kd r.1 = 12 := by simpa using hk
    rw [List.map_cons, List.map_cons]
    rw [List.map_cons] at kk
    rcases hor with hok | hok
    · rw [cnc_own (okr_spec hok).1]
      have he := wsO_at (β := β) (cs := cs) (ε := xE X) hok
      rcases hk with hk | hk
      · rw [ent_int hk (by omega) (by omega)] at he
        exact va_bald hx hb hK hP _ (11 - 10) he (tysO_at (by omega) (by omega)) (vin h0 h1) hd kk
      · rw [ent_int hk (by omega) (by omega)] at he
        exact va_zald hx hb hK hP _ (12 - 10) he (tysO_at (by omega) (by omega)) (vin h0 h1) hd kk
    · rcases okx_spec hok with rfl | rfl | ⟨j, hj, rfl⟩
      · exact absurd hk (by decide)
      · exact absurd hk (by decide)
      · obtain ⟨q1, q2⟩ := hE (3, j, 0) (show (3 : Nat) < 5 by omega)
        rw [cnc_x3 hj]
        rw [q1] at kk
        rw [q2] at h1
        exact va_tb hx hb (hST.1 j hj).2.2.2 hS (vin h0 h1) rfl hd kk
  case caload =>
    obtain ⟨rfl, x, r, rest, rfl, hk, hor, h0, h1, rfl, rfl⟩ := rdA_some hs
    have hk : kd r.1 = 13 := by simpa using hk
    rw [List.map_cons, List.map_cons]
    rw [List.map_cons] at kk
    rcases hor with hok | hok
    · rw [cnc_own (okr_spec hok).1]
      have he := wsO_at (β := β) (cs := cs) (ε := xE X) hok
      rw [ent_int hk (by omega) (by omega)] at he
      exact va_cald hx hb hK hP _ (13 - 10) he (tysO_at (by omega) (by omega)) (vin h0 h1) hd kk
    · rcases okx_spec hok with rfl | rfl | ⟨j, hj, rfl⟩
      · exact absurd hk (by decide)
      · exact absurd hk (by decide)
      · exact absurd hk (by show ¬ kd 3 = 13; decide)
  case aaload =>
    obtain ⟨rfl, x, r, rest, rfl, hk1, hk2, hok, h0, h1, rfl, rfl⟩ := rdR_some hs
    rw [List.map_cons, List.map_cons, cnc_own (okr_spec hok).1]
    rw [List.map_cons, cnc_aR] at kk
    have he := wsO_at (β := β) (cs := cs) (ε := xE X) hok
    rw [ent_ref rfl hk1] at he
    obtain ⟨rr, -, hty, -⟩ := aty_obj hk1 hk2
    have ht := tysO_at (cs := cs) (k := kd r.1) (by omega) hk2
    rw [hty] at ht
    exact va_aldq hx hb hK hP _ _ he ht (vin h0 h1) hd kk
  case arraylength =>
    have h99 := is1 (show (if len = 1 then _ else none) = some _ from hs); clear hs; obtain ⟨rfl, hs⟩ := h99
    split at hs
    · rename_i r rest
      obtain ⟨⟨hk1, hk2, hor⟩, h⟩ := is1 hs
      cases h
      rw [List.map_cons]
      rw [List.map_cons] at kk
      rcases Bool.or_eq_true_iff.mp hor with hok | hok
      · rw [cnc_own (okr_spec hok).1]
        have he := wsO_at (β := β) (cs := cs) (ε := xE X) hok
        by_cases h14 : kd r.1 < 14
        · rw [ent_int rfl (by omega) h14] at he
          exact va_alen hx hb hK hP _ _ he (tysO_at hk1 hk2) rfl hd kk
        · rw [ent_ref rfl (by omega)] at he
          exact va_alen hx hb hK hP _ _ he (tysO_at hk1 hk2) rfl hd kk
      · rcases okx_spec hok with rfl | rfl | ⟨j, hj, rfl⟩
        · rw [(hE (0, 0, 0) (by decide)).2] at kk
          rw [cnc_x0]
          exact va_slen hx hb hX hbl hbA hS hd kk
        · rw [(hE (1, 0, 0) (by decide)).2] at kk
          rw [cnc_x1]
          exact va_tlen hx hb hTa hS rfl hd kk
        · rw [(hE (3, j, 0) (show (3 : Nat) < 5 by omega)).2] at kk
          rw [cnc_x3 hj]
          exact va_tlen hx hb (hST.1 j hj).2.2.2 hS rfl hd kk
    · cases hs
end SB
