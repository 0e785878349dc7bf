/-! SOUNDNESS, 7: what the interpreter answers, the machine does -/
def wsM (μ : Mu) : List Jvm.Cond := Jvm.Cond.code μ.2.1 μ.1 μ.2.2.1 μ.2.2.2 :: gTb
theorem wsM_good {μ : Mu} (h : okw (.code μ.2.1 μ.1 μ.2.2.1 μ.2.2.2) = true) : GoodIn gTb (wsM μ) := by
  intro w hw
  have hg : w ∈ gTb := by
    rcases List.mem_cons.mp hw with rfl | h1
    · exact okw_in h
    · exact h1
  exact ⟨hg, gTb_good hg⟩
def PcM (β : Nat) (D : va_G) (cs : Nat → ClassId) (X : Xp) (σ : St) (as : List Av) : Array Value → State → Prop := fun a U => a = (as.map (cnc β (xE X))).toArray ∧ Cx β D cs X U ∧ va_P D vwCl (wsO β cs (xE X) σ) U.heap ∧ U.heap.size = β + σ.2.2.1
def QcM (β : Nat) (D : va_G) (cs : Nat → ClassId) (X : Xp) (σ : St) (v : Option Av) : Array Value → State → Outcome → State → Prop := fun _ st oc t => oc = .returned (v.map (cnc β (xE X))) ∧ va_P D vwCl (wsO β cs (xE X) σ) t.heap ∧ va_F (Ax β) st t
theorem PcM_blind {β : Nat} {D : va_G} {cs : Nat → ClassId} {X : Xp} {σ : St} {as : List Av} : FrameBlind (PcM β D cs X σ as) := fun _ _ _ _ h => ⟨h.1, h.2.1.blind, h.2.2.1, h.2.2.2⟩
def Snd (lc : Launch) (β : Nat) (D : va_G) (cs : Nat → ClassId) (X : Xp) (n : Nat) : Prop :=
  ∀ (d : Nat) (μ : Mu) (pc : Nat) (l : Lv) (st : List Av) (σ : St) (v : Option Av) (σ' : St), xc n d μ pc l st σ = some (v, σ') →
  ∀ (p : Program) (e : Env) (R : Room) (s : State) (m : MethodId) (args : Array Value) (below : List Frame) (meth : Method) (c : Code) (H : Heap) (locs : List Loc) (cells slots : Nat) (Q : State → Prop) (ls : Array Slot),
  p.tables.exec = Jvm.exec → c.code = μ.1 → c.maxLocals = ls.size → (μ.2.1.name = "<init>" → meth.name = "<init>") → (∀ w ∈ gTb, w.before args s = true) → s.vm.findClass μ.2.1.cls = some m.cls → Cx β D cs X s → LvR β (xE X) ls l → va_P D vwCl (wsO β cs (xE X) σ) H → va_S (Ax β) s.heap H locs → exO X σ → s.heap.size + cells = β + σ.2.2.1 →
  d ≤ R.frames → 38 * d ≤ R.locals → cells + σ'.2.2.1 ≤ R.cells + σ.2.2.1 → slots + σ'.2.2.2 ≤ R.slots + σ.2.2.2 →
  (∀ (k n : Nat) (i : Instr) (pc' : Nat) (ls' : Array Slot) (st' : List Av) (H' : Heap) (locs' : List Loc), σ'.2.2.1 = σ.2.2.1 + k → σ'.2.2.2 = σ.2.2.2 + n → decode μ.1 pc' = .ok (i, 1) → sE μ.2.2.2 i 1 st' = some v → va_P D vwCl (wsO β cs (xE X) σ') H' → va_S (Ax β) s.heap H' locs' → W p lc e R s m args below meth c H' locs' (cells + k) (slots + n) Q (F0 m pc' ls' (st'.map (cnc β (xE X))))) →
  W p lc e R s m args below meth c H locs cells slots Q (F0 m pc ls (st.map (cnc β (xE X))))
section MN
variable {lc : Launch} {β : Nat} {D : va_G} {cs : Nat → ClassId} {X : Xp}
theorem met_of {n d : Nat} (IH : Snd lc β D cs X n) {μ : Mu} {as : List Av} {σ σ' : St} {v : Option Av} (hpl : plainName μ.2.1.cls = true) (hlen : as.length ≤ μ.2.2.1) (hcat : ∀ a ∈ as, qcat a = 1) (hE : exO X σ) (h : xc n d μ 0 (qent as μ.2.2.1) [] σ = some (v, σ')) :
    Met lc μ.2.1 (wsM μ) ({ frames := d, cells := σ'.2.2.1 - σ.2.2.1, slots := σ'.2.2.2 - σ.2.2.2, locals := 38 * d }) (PcM β D cs X σ as) (QcM β D cs X σ' v) (σ'.2.2.1 - σ.2.2.1) (σ'.2.2.2 - σ.2.2.2) (Ax β) := by
  have hgr := xc_gr _ _ _ _ _ _ _ _ _ h
  refine Met.ofW (cc := μ.1) (maxL := μ.2.2.1) (ret := μ.2.2.2) (ws' := gTb) hpl rfl ?_
  intro p e s m args below meth c s₁ B hml hv
  obtain ⟨rfl, hC, hP, hsz⟩ := hv
  have hfm := hC.2.2.2.2.2.2.2.2.2.2.2.2.2
  have hε := xE_ok hfm
  rw [lg_entry_eq]
  have hl := LvR_entry (β := β) hε hlen hcat
  generalize ((lg_sl (as.map (cnc β (xE X))) ++ List.replicate (μ.2.2.1 - (lg_sl (as.map (cnc β (xE X)))).length) Slot.unset).toArray) = ls at hl ⊢
  have hql : (qent as μ.2.2.1).length = μ.2.2.1 := by
    unfold qent
    rw [List.length_append, List.length_map, List.length_replicate]
    omega
  have hr := B.returns
  have hlocks := B.notSynchronized
  have hnm : meth.name = μ.2.1.name := (name_of_methodNamed B.named B.method).1
  refine IH d μ 0 (qent as μ.2.2.1) [] σ v σ' h p e _ s m _ below meth c s.heap [] 0 0 _ ls B.exec B.bytes (hml.trans (by rw [hl.1, hql])) (fun h => hnm.trans h) (fun w hw => atoms_spec (ws := wsM μ) B.pre w (List.mem_cons_of_mem _ hw)) (findClass_of_methodNamed B.named) hC hl hP va_S.rf hE (by rw [hsz]; rfl) (Nat.le_refl d) (Nat.le_refl (38 * d)) (show 0 + σ'.2.2.1 ≤ (σ'.2.2.1 - σ.2.2.1) + σ.2.2.1 by have := hgr.1; omega) (show 0 + σ'.2.2.2 ≤ (σ'.2.2.2 - σ.2.2.2) + σ.2.2.2 by have := hgr.2.1; omega) ?_
  intro k q i pc' ls' st' H' locs' hk hq hd hsE hP' hS'
  have e1 : σ'.2.2.1 - σ.2.2.1 = 0 + k := by omega
  have e2 : σ'.2.2.2 - σ.2.2.2 = 0 + q := by omega
  rw [e1, e2]
  obtain ⟨-, hsE⟩ := sE_spec hsE
  rcases hsE with ⟨rfl, h2, rfl, rfl⟩ | ⟨ty, x, rfl, h2, rfl, h4, rfl⟩ | ⟨x, rfl, h2, rfl, rfl⟩ | ⟨ty, r, rfl, h2, h3, rfl, rfl⟩
  · exact W.vret B.exec B.bytes (hr.trans h2) (fun t ht hW => ⟨rfl, by rw [ht]; exact hP', hS'.F ht⟩) hS'.2.2 hd hlocks
  · exact W.zret B.exec B.bytes (hr.trans h2) h4 (fun t ht hW => ⟨rfl, by rw [ht]; exact hP', hS'.F ht⟩) hS'.2.2 hd hlocks
  · exact W.lret B.exec B.bytes (hr.trans h2) (fun t ht hW => ⟨rfl, by rw [ht]; exact hP', hS'.F ht⟩) hS'.2.2 hd hlocks
  · refine W.aret B.exec B.bytes (hr.trans h2) ?_ (cnc_ref hε r) (fun t ht hW => ⟨rfl, by rw [ht]; exact hP', hS'.F ht⟩) hS'.2.2 hd hlocks
    unfold rfT at h3
    split at h3
    · exact Or.inl ⟨_, rfl⟩
    · exact Or.inr ⟨_, rfl⟩
    · cases h3
section QC
variable {p : Program} {e : Env} {R : Room} {s : State} {m : MethodId} {args : Array Value} {below : List Frame} {meth : Method} {c : Code} {H : Heap} {locs : List Loc} {cells slots mc ms : Nat} {Q : State → Prop} {pc : Nat} {ls : Array Slot} {st0 rest : List Value}
theorem q_call {a : Array Value} {σ' : St} {v : Option Av} (hr : va_Run p lc e R s m args below meth c H locs cells slots mc ms (F0 m pc ls st0) rest (QcM β D cs X σ' v a) (Ax β)) (hS : va_S (Ax β) s.heap H locs)
    (kk : ∀ (H1 : Heap) (locs1 : List Loc), va_P D vwCl (wsO β cs (xE X) σ') H1 → va_S (Ax β) s.heap H1 locs1 → W p lc e R s m args below meth c H1 locs1 (cells + mc) (slots + ms) Q (F0 m (pc + 3) ls ((v.map (cnc β (xE X))).toList ++ rest))) : W p lc e R s m args below meth c H locs cells slots Q (F0 m pc ls st0) := by
  intro T hT Y
  obtain ⟨v', st₀, t, T', L, h0, Y', hL, e1, e2, ⟨hv, hp, hz, hk⟩, stp⟩ := hr T hT Y
  have hv : v' = v.map (cnc β (xE X)) := by cases hv; rfl
  subst hv
  rw [h0] at hz hk
  obtain ⟨t2, a1, b1⟩ := kk T'.heap (locs ++ L) (by rw [e1]; exact hp) ⟨Nat.le_trans hS.1 (by rw [e1]; exact hz), fun q h1 h2 => by rw [e1, hk q (Nat.lt_of_lt_of_le h1 hS.1) h2]; exact hS.2.1 q h1 h2, fun q hq => by
      rcases List.mem_append.mp hq with h | h
      · exact hS.2.2 q h
      · exact hL q h⟩ T' rfl Y'
  exact ⟨t2, stp t2 a1, b1⟩
end QC
theorem map_take_drop {α γ : Type} (f : α → γ) (l : List α) (n : Nat) : l.map f = ((l.take n).reverse.map f).reverse ++ (l.drop n).map f := by
  rw [List.map_reverse, List.reverse_reverse, ← List.map_append, List.take_append_drop]
set_option maxHeartbeats 4000000 in
theorem snd_all : ∀ n, Snd lc β D cs X n := by
  intro n
  induction n with
  | zero => intro d μ pc l st σ v σ' h; cases h
  | succ n IH =>
    intro d μ pc l st σ v σ' h p e R s m args below meth c H locs cells slots Q ls hx hb hml hmn hts hown hC hl hP hS hE hI hRf hRl hRc hRs ret
    have hfm := hC.2.2.2.2.2.2.2.2.2.2.2.2.2
    have hε := xE_ok hfm
    obtain ⟨i, len, hd, h⟩ := xc_cases h
    rcases h with ⟨pc', l', st', hs, h⟩ | ⟨pc', st', hs, h⟩ | ⟨pc', st', σ1, hs, h⟩ | ⟨v', hs, h⟩ | ⟨d', μ', as, rest, v1, σ1, rfl, hs, hlen, hcat, h1, h⟩
    · exact sA_ok hε hx hb hl hd hs fun ls' hl' hz => IH d μ pc' l' st' σ v σ' h p e R s m args below meth c H locs cells slots Q ls' hx hb (hml.trans hz.symm) hmn hts hown hC hl' hP hS hE hI hRf hRl hRc hRs ret
    · exact sB_ok hx hb hts hown hC hP hS hE hd hs (IH d μ pc' l st' σ v σ' h p e R s m args below meth c H locs cells slots Q ls hx hb hml hmn hts hown hC hl hP hS hE hI hRf hRl hRc hRs ret)
    · have g1 := sC_gr hs
      have g2 := xc_gr _ _ _ _ _ _ _ _ _ h
      refine sC_ok hx hb hml hmn hts hown hC hP hS hI hd hs hRf hRl (by have := g2.1; omega) (by have := g2.2.1; omega) fun k q H1 locs1 hk hq hP1 hS1 => ?_
      refine IH d μ pc' l st' σ1 v σ' h p e R s m args below meth c H1 locs1 (cells + k) (slots + q) Q ls hx hb hml hmn hts hown hC hl hP1 hS1 (g1.2.2 _ hE) (by omega) hRf hRl (by omega) (by omega) ?_
      intro k2 q2 i2 pc2 ls2 st2 H2 locs2 hk2 hq2 hd2 hE2 hP2 hS2
      rw [Nat.add_assoc, Nat.add_assoc]
      exact ret (k + k2) (q + q2) i2 pc2 ls2 st2 H2 locs2 (by omega) (by omega) hd2 hE2 hP2 hS2
    · cases h
      obtain ⟨rfl, -⟩ := sE_spec hs
      exact ret 0 0 i pc ls st H locs rfl rfl hd hs hP hS
    · have g1 := xc_gr _ _ _ _ _ _ _ _ _ h1
      have g2 := xc_gr _ _ _ _ _ _ _ _ _ h
      refine W.sized fun hsz => ?_
      have hH := hH_of hC hP hS hI hsz
      clear hsz
      have hgo : ∀ (H1 : Heap) (locs1 : List Loc), va_P D vwCl (wsO β cs (xE X) σ1) H1 → va_S (Ax β) s.heap H1 locs1 → W p lc e R s m args below meth c H1 locs1 (cells + (σ1.2.2.1 - σ.2.2.1)) (slots + (σ1.2.2.2 - σ.2.2.2)) Q (F0 m (pc + 3) ls ((v1.map (cnc β (xE X))).toList ++ rest.map (cnc β (xE X)))) := by
        intro H1 locs1 hP1 hS1
        have e9 : (v1.map (cnc β (xE X))).toList ++ rest.map (cnc β (xE X)) = (v1.toList ++ rest).map (cnc β (xE X)) := by
          cases v1 <;> simp
        rw [e9]
        have q1 := g1.1
        have q2 := g1.2.1
        have q3 := g2.1
        have q4 := g2.2.1
        refine IH (d' + 1) μ (pc + 3) l (v1.toList ++ rest) σ1 v σ' h p e R s m args below meth c H1 locs1 (cells + (σ1.2.2.1 - σ.2.2.1)) (slots + (σ1.2.2.2 - σ.2.2.2)) Q ls hx hb hml hmn hts hown hC hl hP1 hS1 (g1.2.2 _ hE) (by omega) hRf hRl (by omega) (by omega) ?_
        intro k2 n2 i2 pc2 ls2 st2 H2 locs2 hk2 hn2 hd2 hE2 hP2 hS2
        rw [Nat.add_assoc, Nat.add_assoc]
        exact ret _ _ i2 pc2 ls2 st2 H2 locs2 (by omega) (by omega) hd2 hE2 hP2 hS2
      have hfit : cells + (σ1.2.2.1 - σ.2.2.1) ≤ R.cells ∧ slots + (σ1.2.2.2 - σ.2.2.2) ≤ R.slots := by
        have q1 := g1.1
        have q2 := g1.2.1
        have q3 := g2.1
        have q4 := g2.2.1
        omega
      have hpre : ∀ U : State, U.heap = H → s.WarmedH U.vm → PcM β D cs X σ as (as.map (cnc β (xE X))).toArray U := fun U hU hW => ⟨rfl, hC.next hS hU hW, by rw [hU]; exact hP, by rw [hU]; exact hH⟩
      unfold sD at hs
      replace hs := is1 hs
      obtain ⟨rfl, hs⟩ := hs
      split at hs
      · rename_i k
        split at hs
        · rename_i μ2 np hrs
          replace hs := is1 hs
          obtain ⟨⟨hnp, hc8⟩, hs⟩ := hs
          cases hs
          obtain ⟨nst, hlk, hpar, w1, w2, hpl, hnh, h19, w3, w4, -, -⟩ := rsl_spec hrs
          have hM := met_of IH hpl hlen hcat hE h1
          have hlen2 : ((st.take np).reverse.map (cnc β (xE X))).length = np := by
            rw [List.length_map, List.length_reverse, List.length_take]; omega
          have hst := map_take_drop (cnc β (xE X)) st np
          have hW := lv_room (m := m) (pc := pc) (ls := ls) (rest := st.map (cnc β (xE X))) (st := (st.drop np).map (cnc β (xE X))) (by rw [cnc_sum hε]; exact hc8)
          cases nst with
          | none => exact q_call (va_runS (rest := (st.drop np).map (cnc β (xE X))) ⟨hx, hb, hml, hown, hts⟩ hM ⟨callB_of np hts (wsM_good w1) rfl rfl rfl (hts _ (okw_in w2)) (hts _ (okw_in (w3 rfl))) ⟨hnh.1, hnh.2, hpar⟩ ⟨hRf, by show 8 + (_ + 11) + 38 * d' ≤ _; omega⟩, hts _ (okw_in (w4 rfl))⟩ ⟨PcM_blind, hpre⟩ rfl hlen2 rfl hst hW hd hfit) hS hgo
          | some hst0 => exact q_call (va_runSN (rest := (st.drop np).map (cnc β (xE X))) ⟨hx, hb, hml, hown, hts⟩ hM ⟨va_cnB np hts (wsM_good w1) rfl rfl rfl (hC.2.2.2.2.2.2.2.2.2.2.1 _ _ _ _ (hlk _ rfl)) (hts _ (okw_in w2)) ⟨hnh.1, hnh.2, hpar⟩ ⟨hRf, by show 8 + (_ + 11) + 38 * d' ≤ _; omega⟩, hts _ (okw_in (w4 rfl)), trivial⟩ ⟨PcM_blind, hpre⟩ rfl hlen2 rfl hst hW hd hfit) hS hgo
        · cases hs
      · rename_i k
        split at hs
        · rename_i μ2 np hrs
          split at hs
          · rename_i r rest2 hdr
            replace hs := is1 hs
            obtain ⟨⟨hnp, hc8, hrc⟩, hs⟩ := hs
            cases hs
            obtain ⟨nst, hlk, hpar, w1, w2, hpl, hnh, h19, w3, -, w5, -⟩ := rsl_spec hrs
            obtain ⟨w8, w6, rfl⟩ := w5 rfl
            have hM := met_of IH hpl hlen hcat hE h1
            have hlen2 : ((st.take np).reverse.map (cnc β (xE X))).length = np := by
              rw [List.length_map, List.length_reverse, List.length_take]; omega
            have hW := lv_room (m := m) (pc := pc) (ls := ls) (rest := st.map (cnc β (xE X))) (st := rest.map (cnc β (xE X))) (by rw [cnc_sum hε]; exact hc8)
            have hst := map_take_drop (cnc β (xE X)) st np
            rw [hdr, List.map_cons] at hst
            have hrv : ∃ a, cnc β (xE X) (.inr (.inr (some r))) = .ref a ∧ ∃ cellB : Cell, H[a]? = some cellB ∧ cellB.vm.isStatics = false ∧ s.vm.findClass μ'.2.1.cls = some cellB.cls := by
              unfold rcv at hrc
              split at hrc
              · rename_i q hq
                simp only [Bool.and_eq_true, decide_eq_true_eq] at hrc
                refine ⟨_, cnc_own (okr_spec hrc.1).1, ?_⟩
                have h9 : kd r.1 < 9 := (List.getElem?_eq_some_iff.mp hq).1
                have he := wsO_at (β := β) (cs := cs) (ε := xE X) hrc.1
                rw [ent_obj rfl h9] at he
                rw [← hrc.2]
                exact va_recv hC.1 hP hq he
              · simp only [Bool.and_eq_true, decide_eq_true_eq] at hrc
                obtain ⟨j, hj, rfl⟩ := oks_spec hrc.1
                refine ⟨_, cnc_x2 hj, ?_⟩
                rw [hrc.2]
                exact vk_recv hC.2.2.2.2.2.2.2.2.1 hj hS
            obtain ⟨a, ea, hcell⟩ := hrv
            rw [List.map_cons, ea] at hpre
            rw [ea] at hst
            exact q_call (va_runV (rest := rest.map (cnc β (xE X))) ⟨hx, hb, hml, hown, hts⟩ hM ⟨callB_of np hts (wsM_good w1) rfl rfl rfl (hts _ (okw_in w2)) (hts _ (okw_in (w3 rfl))) ⟨hnh.1, hnh.2, hpar⟩ ⟨hRf, by show 8 + (_ + 11) + 38 * d' ≤ _; omega⟩, hts _ (okw_in w8), hts _ (okw_in w6)⟩ ⟨PcM_blind, hcell, hpre⟩ rfl hlen2 rfl hst hW hd hfit) hS hgo
          · cases hs
        · cases hs
      · rename_i k
        split at hs
        · rename_i μ2 np hrs
          split at hs
          · rename_i r rest2 hdr
            replace hs := is1 hs
            obtain ⟨⟨hnp, hc8, h5⟩, hs⟩ := hs
            cases hs
            obtain ⟨nst, hlk, hpar, w1, w2, hpl, hnh, h19, w3, -, -, w5⟩ := rsl_spec hrs
            obtain ⟨w5, w6, w7⟩ := w5 rfl
            have hM := met_of IH hpl hlen hcat hE h1
            have hlen2 : ((st.take np).reverse.map (cnc β (xE X))).length = np := by
              rw [List.length_map, List.length_reverse, List.length_take]; omega
            have hW := lv_room (m := m) (pc := pc) (ls := ls) (rest := st.map (cnc β (xE X))) (st := rest.map (cnc β (xE X))) (by rw [cnc_sum hε]; exact hc8)
            have hst := map_take_drop (cnc β (xE X)) st np
            rw [hdr, List.map_cons] at hst
            rw [List.map_cons, cnc_own h5] at hpre
            rw [cnc_own h5] at hst
            cases nst with
            | none => exact q_call (va_runI (bytes := μ'.1) (maxL := μ'.2.2.1) (rest := rest.map (cnc β (xE X))) ⟨hx, hb, hml, hown, hts⟩ hM ⟨callB_of np hts (wsM_good w1) (by rw [wsM, w7]) rfl rfl (hts _ (okw_in w2)) (hts _ (okw_in (w3 rfl))) ⟨hnh.1, hnh.2, hpar⟩ ⟨hRf, by show 8 + (_ + 11) + 38 * d' ≤ _; omega⟩, w6, hts _ (okw_in w5)⟩ ⟨PcM_blind, hpre⟩ rfl hlen2 rfl hst hW hd hfit) hS hgo
            | some hst0 => exact q_call (va_runIN (bytes := μ'.1) (maxL := μ'.2.2.1) (rest := rest.map (cnc β (xE X))) ⟨hx, hb, hml, hown, hts⟩ hM ⟨va_cnB np hts (wsM_good w1) (by rw [wsM, w7]) rfl rfl (hC.2.2.2.2.2.2.2.2.2.2.1 _ _ _ _ (hlk _ rfl)) (hts _ (okw_in w2)) ⟨hnh.1, hnh.2, hpar⟩ ⟨hRf, by show 8 + (_ + 11) + 38 * d' ≤ _; omega⟩, w6, hts _ (okw_in w5)⟩ ⟨PcM_blind, hpre⟩ rfl hlen2 rfl hst hW hd hfit) hS hgo
          · cases hs
        · cases hs
      · cases hs
end MN
