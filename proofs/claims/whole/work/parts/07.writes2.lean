/-! SOUNDNESS, 5: the steps that write cells or make them, walked -/
section SC
variable {p : Program} {lc : Launch} {e : Env} {R : Room} {s : State} {m : MethodId} {args : Array Value} {below : List Frame} {meth : Method} {c : Code} {H : Heap} {locs : List Loc} {cells slots : Nat} {Q : State → Prop}
variable {β : Nat} {D : va_G} {cs : Nat → ClassId} {X : Xp}
theorem hH_of {σ : St} (hC : Cx β D cs X s) (hP : va_P D vwCl (wsO β cs (xE X) σ) H) (hS : va_S (Ax β) s.heap H locs) (hI : s.heap.size + cells = β + σ.2.2.1) (h1 : H.size ≤ s.heap.size + cells) : H.size = β + σ.2.2.1 := by
  have h2 := size_ge hP (Nat.le_trans hC.2.2.2.1 hS.1)
  omega
theorem S_new {H1 : Heap} (hS : va_S (Ax β) s.heap H locs) (z : H1.size = H.size + 1) (o1 : ∀ q, q < H.size → H1[q]? = H[q]?) : va_S (Ax β) s.heap H1 locs :=
  ⟨Nat.le_trans hS.1 (by omega), fun x h1 h2 => (o1 x (Nat.lt_of_lt_of_le h1 hS.1)).trans (hS.2.1 x h1 h2), hS.2.2⟩
theorem cs_arr {k : Nat} {cA : ClassId} (hK : va_K D vwCl (tysO cs) s) (h1 : 10 ≤ k) (h2 : k < 14) (hc : s.vm.findClass ("[" ++ (aty k).toString) = some cA) : cA = cs k := by
  have h3 := (hK.2 _ _ (tysO_at (cs := cs) h1 (by omega))).2
  have h : k = 10 ∨ k = 11 ∨ k = 12 ∨ k = 13 := by omega
  rcases h with rfl | rfl | rfl | rfl <;> exact Option.some.inj (hc.symm.trans h3)
set_option maxHeartbeats 8000000 in
set_option maxRecDepth 20000 in
theorem sC_ok {μ : Mu} {d : Nat} {cc : ByteArray} {i : Instr} {len pc pc' : Nat} {st st' : List Av} {σ σ' : St} {ls : Array Slot} (hx : p.tables.exec = Jvm.exec) (hb : c.code = cc) (hml : c.maxLocals = ls.size) (hmn : μ.2.1.name = "<init>" → meth.name = "<init>") (hts : ∀ w ∈ gTb, w.before args s = true) (hown : s.vm.findClass μ.2.1.cls = some m.cls) (hC : Cx β D cs X s) (hP : va_P D vwCl (wsO β cs (xE X) σ) H) (hS : va_S (Ax β) s.heap H locs) (hI : s.heap.size + cells = β + σ.2.2.1)
    (hd : decode cc pc = .ok (i, len)) (hs : sC μ d i len pc st σ = some (pc', st', σ')) (hRf : d ≤ R.frames) (hRl : 38 * d ≤ R.locals) (hRc : cells + σ'.2.2.1 ≤ R.cells + σ.2.2.1) (hRs : slots + σ'.2.2.2 ≤ R.slots + σ.2.2.2)
    (kk : ∀ (k n : Nat) (H1 : Heap) (locs1 : List Loc), σ'.2.2.1 = σ.2.2.1 + k → σ'.2.2.2 = σ.2.2.2 + n → va_P D vwCl (wsO β cs (xE X) σ') H1 → va_S (Ax β) s.heap H1 locs1 → W p lc e R s m args below meth c H1 locs1 (cells + k) (slots + n) Q (F0 m pc' ls (st'.map (cnc β (xE X))))) : W p lc e R s m args below meth c H locs cells slots Q (F0 m pc ls (st.map (cnc β (xE X)))) := by
  refine W.sized fun hsz => ?_
  have hH := hH_of hC hP hS hI hsz
  clear hsz
  have hCC := hC
  obtain ⟨hK, -, -, -, -, -, -, -, -, -, -, -, hAO, hfm⟩ := hCC
  have hε := xE_ok hfm
  have hD : va_D (Ax β) (wsO β cs (xE X) σ) := wsO_D
  cases i <;> first | (cases hs; done) | skip
  case putfield k =>
    have h99 := is1 (show (if len = 3 then _ else none) = some _ from hs); clear hs; obtain ⟨rfl, hs⟩ := h99
    split at hs
    · rename_i v r rest ci q hf
      have h99 := is1 hs
      clear hs
      obtain ⟨⟨hok, hk, h9, hfk, hfin⟩, h⟩ := h99
      cases h
      obtain ⟨ref, n, dd, hlk, hcase⟩ := fld_spec hf
      rcases hcase with ⟨z, -⟩ | ⟨z, -⟩ | ⟨-, T, N, hcl, hq, e1, e2, e3⟩
      · omega
      · omega
      · obtain ⟨hN, hin⟩ := cl_spec hcl h9
        obtain ⟨hty, hnm⟩ := ty_ok ci h9 _ hcl
        subst e2; subst e3
        rw [List.map_cons, List.map_cons, cnc_own (okr_spec hok).1]
        have he := wsO_at (β := β) (cs := cs) (ε := xE X) hok
        rw [ent_obj hk h9] at he
        obtain ⟨f1, f2⟩ := fok_ok (β := β) hε hfk
        have hset : (wsO β cs (xE X) σ).set (qoff r) (β + qoff r, .inr (ci, ((List.range (nFl ci)).map fun j => cnc β (xE X) (σ.1 r j)).set q (cnc β (xE X) v))) = wsO β cs (xE X) (hput σ.1 r q v, σ.2) := by
          rw [← wsO_set hok (τ := (hput σ.1 r q v, σ.2)) rfl (fun z hz => ⟨hput_ne hz, rfl⟩), ent_obj hk h9]
          congr 4
          refine map_range_set _ _ ?_ ?_
          · show cnc β (xE X) (hput σ.1 r q v r q) = _
            unfold hput; rw [if_pos ⟨rfl, rfl⟩]
          · intro j hj
            show cnc β (xE X) (hput σ.1 r q v r j) = _
            unfold hput; rw [if_neg (fun e => hj e.2)]
        rcases hfin with hfin | ⟨hi1, hi2⟩
        · have hfin : (T q).2.2.2 = false := by unfold qfin at hfin; rw [hcl] at hfin; exact hfin
          refine va_put hx hb hts hin (tyOf ci) hty hnm hown hK hP hD hS _ he hcl q hq (hts _ (okw_in hlk)) (fun x hx => by rw [← e1]; exact hx) hfin (hty q hq) f1 f2 (by rw [List.length_map, List.length_range]; omega) hd (fun H1 locs1 hP1 hD1 hS1 => ?_)
          rw [hset] at hP1
          exact kk 0 0 H1 locs1 rfl rfl hP1 hS1
        · have hdecl : (T q).1 = μ.2.1.cls := by rw [hcl] at hi2; exact Option.some.inj hi2
          cases hfin : (T q).2.2.2 with
          | false =>
            refine va_put hx hb hts hin (tyOf ci) hty hnm hown hK hP hD hS _ he hcl q hq (hts _ (okw_in hlk)) (fun x hx => by rw [← e1]; exact hx) hfin (hty q hq) f1 f2 (by rw [List.length_map, List.length_range]; omega) hd (fun H1 locs1 hP1 hD1 hS1 => ?_)
            rw [hset] at hP1
            exact kk 0 0 H1 locs1 rfl rfl hP1 hS1
          | true =>
            refine va_putF hx hb hts hin (tyOf ci) hty hnm hown hK hP hD hS _ he hcl q hq (hts _ (okw_in hlk)) (fun x hx => by rw [← e1]; exact hx) hfin (hmn hi1) hdecl (hty q hq) f1 f2 (by rw [List.length_map, List.length_range]; omega) hd (fun H1 locs1 hP1 hD1 hS1 => ?_)
            rw [hset] at hP1
            exact kk 0 0 H1 locs1 rfl rfl hP1 hS1
    · cases hs
  case iastore =>
    obtain ⟨rfl, v, x, r, rest, rfl, hok, hk, h0, h1, hz⟩ := wrA_some hs
    cases hz
    rw [List.map_cons, List.map_cons, List.map_cons, cnc_own (okr_spec hok).1]
    have he := wsO_at (β := β) (cs := cs) (ε := xE X) hok
    rw [ent_int hk (by omega) (by omega)] at he
    refine va_iast hx hb hK hP hD hS _ (10 - 10) he (tysO_at (by omega) (by omega)) (vin h0 h1) hd (fun H1 locs1 hP1 hD1 hS1 => ?_)
    rw [← hput_aI, ← ent_int (σ := (hput σ.1 r x.toNatClampNeg (vI v), σ.2)) hk (by omega) (by omega), wsO_set hok (τ := (hput σ.1 r x.toNatClampNeg (vI v), σ.2)) rfl (fun z hz => ⟨hput_ne hz, rfl⟩)] at hP1
    exact kk 0 0 H1 locs1 rfl rfl hP1 hS1
  case bastore =>
    have hs2 : (match wrA 11 (vp_nar .byte) len pc st σ with
      | some z => some z
      | none => wrA 12 (vp_nar .boolean) len pc st σ) = some (pc', st', σ') := hs
    clear hs
    split at hs2
    · rename_i z hz1
      obtain ⟨rfl, v, x, r, rest, rfl, hok, hk, h0, h1, hz⟩ := wrA_some hz1
      subst hz
      cases hs2
      rw [List.map_cons, List.map_cons, List.map_cons, cnc_own (okr_spec hok).1]
      have he := wsO_at (β := β) (cs := cs) (ε := xE X) hok
      rw [ent_int hk (by omega) (by omega)] at he
      refine va_bast hx hb hK hP hD hS _ (11 - 10) he (tysO_at (by omega) (by omega)) (vin h0 h1) hd (fun H1 locs1 hP1 hD1 hS1 => ?_)
      rw [← hput_aI, ← ent_int (σ := (hput σ.1 r x.toNatClampNeg (vI (vp_nar .byte v)), σ.2)) hk (by omega) (by omega), wsO_set hok (τ := (hput σ.1 r x.toNatClampNeg (vI (vp_nar .byte v)), σ.2)) rfl (fun z hz => ⟨hput_ne hz, rfl⟩)] at hP1
      exact kk 0 0 H1 locs1 rfl rfl hP1 hS1
    · obtain ⟨rfl, v, x, r, rest, rfl, hok, hk, h0, h1, hz⟩ := wrA_some hs2
      cases hz
      rw [List.map_cons, List.map_cons, List.map_cons, cnc_own (okr_spec hok).1]
      have he := wsO_at (β := β) (cs := cs) (ε := xE X) hok
      rw [ent_int hk (by omega) (by omega)] at he
      refine va_zast hx hb hK hP hD hS _ (12 - 10) he (tysO_at (by omega) (by omega)) (vin h0 h1) hd (fun H1 locs1 hP1 hD1 hS1 => ?_)
      rw [← hput_aI, ← ent_int (σ := (hput σ.1 r x.toNatClampNeg (vI (vp_nar .boolean v)), σ.2)) hk (by omega) (by omega), wsO_set hok (τ := (hput σ.1 r x.toNatClampNeg (vI (vp_nar .boolean v)), σ.2)) rfl (fun z hz => ⟨hput_ne hz, rfl⟩)] at hP1
      exact kk 0 0 H1 locs1 rfl rfl hP1 hS1
  case castore =>
    obtain ⟨rfl, v, x, r, rest, rfl, hok, hk, h0, h1, hz⟩ := wrA_some hs
    cases hz
    rw [List.map_cons, List.map_cons, List.map_cons, cnc_own (okr_spec hok).1]
    have he := wsO_at (β := β) (cs := cs) (ε := xE X) hok
    rw [ent_int hk (by omega) (by omega)] at he
    refine va_cast hx hb hK hP hD hS _ (13 - 10) he (tysO_at (by omega) (by omega)) (vin h0 h1) hd (fun H1 locs1 hP1 hD1 hS1 => ?_)
    rw [← hput_aI, ← ent_int (σ := (hput σ.1 r x.toNatClampNeg (vI (vp_nar .char v)), σ.2)) hk (by omega) (by omega), wsO_set hok (τ := (hput σ.1 r x.toNatClampNeg (vI (vp_nar .char v)), σ.2)) rfl (fun z hz => ⟨hput_ne hz, rfl⟩)] at hP1
    exact kk 0 0 H1 locs1 rfl rfl hP1 hS1
  case aastore =>
    have h99 := is1 (show (if len = 1 then _ else none) = some _ from hs); clear hs; obtain ⟨rfl, hs⟩ := h99
    split at hs
    · rename_i q x r rest
      have h99 := is1 hs
      clear hs
      obtain ⟨⟨hok, hk1, hk2, h0, h1, hq⟩, h⟩ := h99
      cases h
      rw [List.map_cons, List.map_cons, List.map_cons, cnc_own (okr_spec hok).1]
      have he := wsO_at (β := β) (cs := cs) (ε := xE X) hok
      rw [ent_ref rfl hk1] at he
      obtain ⟨rr, hrr, hty, hec⟩ := aty_obj hk1 hk2
      have ht := tysO_at (cs := cs) (k := kd r.1) (by omega) hk2
      rw [hty] at ht
      cases q with
      | none =>
        refine va_astqN hx hb hK hP hD hS _ _ he ht (vin h0 h1) hd (fun H1 locs1 hP1 hD1 hS1 => ?_)
        have e4 : (fun j => (aR (hput σ.1 r x.toNatClampNeg (.inr (.inr none)) r j)).map fun q => β + qoff q) = va_up (fun j => (aR (σ.1 r j)).map fun q => β + qoff q) x.toNatClampNeg none := by
          funext j
          unfold hput va_up
          by_cases hj : j = x.toNatClampNeg
          · rw [if_pos ⟨rfl, hj⟩, if_pos hj]; rfl
          · rw [if_neg (fun e => hj e.2), if_neg hj]
        rw [← e4, ← ent_ref (σ := (hput σ.1 r x.toNatClampNeg (.inr (.inr none)), σ.2)) rfl hk1, wsO_set hok (τ := (hput σ.1 r x.toNatClampNeg (.inr (.inr none)), σ.2)) rfl (fun z hz => ⟨hput_ne hz, rfl⟩)] at hP1
        exact kk 0 0 H1 locs1 rfl rfl hP1 hS1
      | some z =>
        obtain ⟨hz1, hz2⟩ := hq z rfl
        rw [cnc_own (okr_spec hz1).1]
        have hv := wsO_at (β := β) (cs := cs) (ε := xE X) hz1
        rw [ent_obj hz2 hec] at hv
        refine va_astq hx hb hK hP hD hS _ _ _ _ he ht hv hrr (vin h0 h1) hd (fun H1 locs1 hP1 hD1 hS1 => ?_)
        have e4 : (fun j => (aR (hput σ.1 r x.toNatClampNeg (.inr (.inr (some z))) r j)).map fun q => β + qoff q) = va_up (fun j => (aR (σ.1 r j)).map fun q => β + qoff q) x.toNatClampNeg (some (β + qoff z)) := by
          funext j
          unfold hput va_up
          by_cases hj : j = x.toNatClampNeg
          · rw [if_pos ⟨rfl, hj⟩, if_pos hj]
            show (if 5 ≤ z.1 then some z else none).map _ = _
            rw [if_pos (okr_spec hz1).1]; rfl
          · rw [if_neg (fun e => hj e.2), if_neg hj]
        rw [← e4, ← ent_ref (σ := (hput σ.1 r x.toNatClampNeg (.inr (.inr (some z))), σ.2)) rfl hk1, wsO_set hok (τ := (hput σ.1 r x.toNatClampNeg (.inr (.inr (some z))), σ.2)) rfl (fun z hz => ⟨hput_ne hz, rfl⟩)] at hP1
        exact kk 0 0 H1 locs1 rfl rfl hP1 hS1
    · cases hs
  case new k =>
    have h99 := is1 (show (if len = 3 then _ else none) = some _ from hs); clear hs; obtain ⟨rfl, hs⟩ := h99
    split at hs
    · rename_i ci hci
      have h99 := is1 hs
      clear hs
      obtain ⟨hkd, h⟩ := h99
      cases h
      obtain ⟨h9, C, T, N, hcl, hl1, hl2, hl3⟩ := nwc_spec hci
      obtain ⟨hN, hin⟩ := cl_spec hcl h9
      obtain ⟨hty, -⟩ := ty_ok ci h9 _ hcl
      have hKn := hK.1 ci _ hcl
      have hRc : cells + (σ.2.2.1 + 1) ≤ R.cells + σ.2.2.1 := hRc
      have hRs : slots + (σ.2.2.2 + nFl ci) ≤ R.slots + σ.2.2.2 := hRs
      refine W.newcK hx hb hown (hts _ (okw_in hl1)) (hts _ (okw_in hl3)) (hts _ (okw_in hl2)) rfl hd (by omega) (by omega) hKn.2.1 hH fun H1 kC hkC e1 z1 o1 => ?_
      rw [← hH] at z1 o1
      have hkk := kk 1 (nFl ci) H1 locs rfl rfl (born hP hH o1 ?_) (S_new hS z1 o1)
      · rw [List.map_cons, cnc_own (Nat.le_trans (by omega) (mk_tag _)), qoff_mk] at hkk
        subst hN
        exact hkk
      · rw [ent_obj hkd h9, ent_alc.1]
        refine ⟨_, hcl, (u_born (tyOf ci) hts hin hKn hkC e1 hty).to (fun j hj => ?_)⟩
        subst hN
        unfold vp_V
        rw [List.getD_eq_getElem?_getD, List.getElem?_map, List.getElem?_range hj]
        exact df_spec h9 hj
    · cases hs
  case newarray t =>
    have h99 := is1 (show (if len = 2 then _ else none) = some _ from hs); clear hs; obtain ⟨rfl, hs⟩ := h99
    split at hs
    · rename_i x rest
      have h99 := is1 hs
      clear hs
      obtain ⟨⟨h14, hkd, h0, hle, hwd⟩, h⟩ := h99
      cases h
      have hRc : cells + (σ.2.2.1 + 1) ≤ R.cells + σ.2.2.1 := hRc
      have hRs : slots + (σ.2.2.2 + x.toNatClampNeg) ≤ R.slots + σ.2.2.2 := hRs
      have h10 : 10 ≤ nwk t := by cases t <;> first | decide | exact absurd h14 (by decide)
      have hty : newarray.typeOf t = aty (nwk t) := by cases t <;> first | rfl | exact absurd h14 (by decide)
      have hbt : componentBytes (newarray.typeOf t) ≤ 8 := by cases t <;> decide
      have hdf : defaultValue (newarray.typeOf t) = .int 0 := by cases t <;> first | rfl | exact absurd h14 (by decide)
      rw [List.map_cons]
      refine va_newaK hx hb (hts _ (okw_in hwd)) rfl hd rfl (Int32.not_lt.mpr h0) rfl (Nat.le_trans (Nat.mul_le_mul hle hbt) (by decide)) (by omega) (by omega) hH fun H1 cA e1 z1 o1 hAr hNm => ?_
      rw [← hH] at z1 o1
      have hcA : cA = cs (nwk t) := cs_arr hK h10 h14 (by rw [← hty]; exact hNm)
      subst hcA
      have hkk := kk 1 x.toNatClampNeg H1 locs rfl rfl (born hP hH o1 ?_) (S_new hS z1 o1)
      · rw [List.map_cons, cnc_own (Nat.le_trans (by omega) (mk_tag _)), qoff_mk] at hkk
        exact hkk
      · rw [ent_int hkd (by omega) h14, ent_alc.1, ent_alc.2]
        show H1[β + σ.2.2.1]? = some (vp_cell _ _)
        rw [e1, hdf]
        rfl
    · cases hs
  case anewarray k =>
    have h99 := is1 (show (if len = 3 then _ else none) = some _ from hs); clear hs; obtain ⟨rfl, hs⟩ := h99
    split at hs
    · rename_i x rest kq hkq
      have h99 := is1 hs
      clear hs
      obtain ⟨⟨hkd, h0, hle⟩, h⟩ := h99
      cases h
      obtain ⟨C, h14, h18, hty, hl1, hl2⟩ := nwa_spec hkq
      have hRc : cells + (σ.2.2.1 + 1) ≤ R.cells + σ.2.2.1 := hRc
      have hRs : slots + (σ.2.2.2 + x.toNatClampNeg) ≤ R.slots + σ.2.2.2 := hRs
      rw [List.map_cons]
      refine W.anew hx hb hown (hts _ (okw_in hl1)) (va_AO.use (hAO _ hl2)) rfl hd rfl (Int32.not_lt.mpr h0) (by omega) (by omega) (by omega) fun cA kA comp f1 f2 f3 f4 => ?_
      generalize hH1 : H.push ({ cls := cA, slots := Array.replicate x.toNatClampNeg .null, vm := .none } : Cell) = H1
      have z1 : H1.size = H.size + 1 := by rw [← hH1, Array.size_push]
      have e1 : H1[H.size]? = some (arrV cA x.toNatClampNeg (fun _ => .null)) := by rw [← hH1, Array.getElem?_push_size, ← arrV_new]
      have o1 : ∀ q : Nat, q < H.size → H1[q]? = H[q]? := fun q hq => by rw [← hH1, Array.getElem?_push, if_neg (Nat.ne_of_lt hq)]
      have hcA : cA = cs kq := by
        have h3 := (hK.2 _ _ (tysO_at (cs := cs) (k := kq) (by omega) h18)).2
        rw [hty] at h3
        obtain ⟨kA', comp', -, -, -, g4⟩ := h3
        exact Option.some.inj (f1.symm.trans g4)
      subst hcA
      have hkk := kk 1 x.toNatClampNeg H1 locs rfl rfl (born hP hH o1 ?_) (S_new hS z1 o1)
      · rw [List.map_cons, cnc_own (Nat.le_trans (by omega) (mk_tag _)), qoff_mk, ← hH] at hkk
        exact hkk
      · rw [ent_ref hkd h14, ent_alc.1, ent_alc.2]
        show H1[β + σ.2.2.1]? = some (vp_cell _ _)
        rw [← hH, e1]
        rfl
    · cases hs
  case invokespecial k =>
    have h99 := is1 (show (if len = 3 then _ else none) = some _ from hs); clear hs; obtain ⟨rfl, hs⟩ := h99
    split at hs
    · rename_i r rest hy
      have h99 := is1 hs
      clear hs
      obtain ⟨⟨h5, h1d, hcat⟩, h⟩ := h99
      obtain ⟨w1, w2, w3⟩ := spc_0 hy
      cases h
      rw [List.map_cons, cnc_own h5]
      refine W.objInit hx hb hown (hts _ (okw_in w1)) (hts _ (okw_in w2)) (hts _ (okw_in w3)) rfl hml.symm rfl hd (by omega) ?_ (kk 0 0 H locs rfl rfl hP hS)
      have h1 := lv_room (m := m) (pc := pc) (ls := ls) (rest := st'.map (cnc β (xE X))) (st := st'.map (cnc β (xE X))) (by rw [cnc_sum hε]; exact hcat)
      have h2 : 2 * (F0 m pc ls (.ref (β + qoff r) :: st'.map (cnc β (xE X)))).monitorRoom + ((st'.map (cnc β (xE X))).map fun v => v.category).sum ≤ 8 := h1
      omega
    · cases hs
  case invokestatic k =>
    have h99 := is1 (show (if len = 3 then _ else none) = some _ from hs); clear hs; obtain ⟨rfl, hs⟩ := h99
    split at hs
    · rename_i hy
      split at hs
      · rename_i n dp r sp q rest
        have h99 := is1 hs
        clear hs
        obtain ⟨⟨hok, hoq, hk, hkq, hn0, hd0, hs0, hb1, hb2, h1d, hcat⟩, h⟩ := h99
        obtain ⟨w1, w2, w3, w4⟩ := spc_1 hy
        cases h
        rw [List.map_cons, List.map_cons, List.map_cons, List.map_cons, List.map_cons, cnc_own (okr_spec hok).1, cnc_own (okr_spec hoq).1]
        have he := wsO_at (β := β) (cs := cs) (ε := xE X) hok
        rw [ent_int hk (by omega) (by omega)] at he
        have hq := wsO_at (β := β) (cs := cs) (ε := xE X) hoq
        rw [ent_int hkq (by omega) (by omega)] at hq
        have hcat := cnc_sum (β := β) hε st' ▸ hcat
        have hnw : nativeFrameWords "java/lang/System" "arraycopy" 5 + 11 ≤ 30 := by decide
        refine va_copyi hx hb hml hown (hts _ (okw_in w1)) (hts _ (okw_in w2)) (hts _ (okw_in w3)) (hts _ (okw_in w4)) hK hP hD hS _ _ (10 - 10) (10 - 10) hq he (tysO_at (by omega) (by omega)) (tysO_at (by omega) (by omega)) rfl (Int32.not_lt.mpr hs0) (Int32.not_lt.mpr hd0) (Int32.not_lt.mpr hn0) hb1 hb2 (fun _ _ => rfl) (by omega) (by omega) hd (fun H1 locs1 hP1 hD1 hS1 => ?_)
        have e4 := ent_int (β := β) (cs := cs) (ε := xE X) (r := r) (σ := (hnew σ.1 r (fun k => vI (va_cpy (fun j => aI (σ.1 q j)) (fun j => aI (σ.1 r j)) sp.toNatClampNeg dp.toNatClampNeg n.toNatClampNeg k)), σ.2)) hk (by omega) (by omega)
        have e5 : (fun j => aI (hnew σ.1 r (fun k => vI (va_cpy (fun j => aI (σ.1 q j)) (fun j => aI (σ.1 r j)) sp.toNatClampNeg dp.toNatClampNeg n.toNatClampNeg k)) r j)) = va_cpy (fun j => aI (σ.1 q j)) (fun j => aI (σ.1 r j)) sp.toNatClampNeg dp.toNatClampNeg n.toNatClampNeg := by
          funext j
          unfold hnew
          rw [if_pos rfl]
          rfl
        rw [← e5, ← e4, wsO_set hok (τ := (hnew σ.1 r (fun k => vI (va_cpy (fun j => aI (σ.1 q j)) (fun j => aI (σ.1 r j)) sp.toNatClampNeg dp.toNatClampNeg n.toNatClampNeg k)), σ.2)) rfl (fun z hz => ⟨hnew_ne hz, rfl⟩)] at hP1
        exact kk 0 0 H1 locs1 rfl rfl hP1 hS1
      · cases hs
    · rename_i hy
      split at hs
      · have h99 := is1 hs
        clear hs
        obtain ⟨⟨h1d, hcat⟩, h⟩ := h99
        obtain ⟨w1, w2, w3, w4⟩ := spc_m (by omega) hy
        cases h
        have hcat := cnc_sum (β := β) hε _ ▸ hcat
        exact va_mmax hx hb hml hown (hts _ (okw_in w1)) (hts _ (okw_in w2)) (hts _ (okw_in w3)) (hts _ (okw_in w4)) (by omega) (by omega) (by omega) (by omega) hd (kk 0 0 H locs rfl rfl hP hS)
      · cases hs
    · rename_i hy
      split at hs
      · have h99 := is1 hs
        clear hs
        obtain ⟨⟨h1d, hcat⟩, h⟩ := h99
        obtain ⟨w1, w2, w3, w4⟩ := spc_m (by omega) hy
        cases h
        have hcat := cnc_sum (β := β) hε _ ▸ hcat
        exact va_mmin hx hb hml hown (hts _ (okw_in w1)) (hts _ (okw_in w2)) (hts _ (okw_in w3)) (hts _ (okw_in w4)) (by omega) (by omega) (by omega) (by omega) hd (kk 0 0 H locs rfl rfl hP hS)
      · cases hs
    · rename_i hy
      split at hs
      · have h99 := is1 hs
        clear hs
        obtain ⟨⟨h1d, hcat⟩, h⟩ := h99
        obtain ⟨w1, w2, w3, w4⟩ := spc_m (by omega) hy
        cases h
        have hcat := cnc_sum (β := β) hε _ ▸ hcat
        exact va_mabs hx hb hml hown (hts _ (okw_in w1)) (hts _ (okw_in w2)) (hts _ (okw_in w3)) (hts _ (okw_in w4)) (by omega) (by omega) (by omega) (by omega) hd (kk 0 0 H locs rfl rfl hP hS)
      · cases hs
    · cases hs
end SC
