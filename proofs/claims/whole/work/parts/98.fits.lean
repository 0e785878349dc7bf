/-! THE PURE PART, 79: the code of a text fits -/
section
/-- how many numbers wait -/
def dpt (cf : Fl) : Nat → Nat
  | 0 => 0
  | k + 1 => if 0 ≤ cf k then dpt cf k + 1 else if cf k = -10 then dpt cf k else dpt cf k - 1
def vcd (L : Int32) (x : Int32) (n : Nat) : Prop := (0 ≤ x ∧ x < L ∧ n < 96) ∨ (x = -10 ∧ 1 ≤ n) ∨ (-10 ≤ x ∧ ¬ 0 ≤ x ∧ ¬ x = -10 ∧ 2 ≤ n)
def VC (L : Int32) (cf : Fl) (c : Nat) : Prop := ∀ k, k < c → vcd L (cf k) (dpt cf k)
theorem dpt_le {cf : Fl} : ∀ c, dpt cf c ≤ c
  | 0 => Nat.le_refl _
  | c + 1 => by
    have := dpt_le (cf := cf) c
    show (if 0 ≤ cf c then dpt cf c + 1 else if cf c = -10 then dpt cf c else dpt cf c - 1) ≤ c + 1
    split
    · omega
    · split <;> omega
theorem dpt_u {cf : Fl} {c : Nat} {x : Int32} : ∀ k, k ≤ c → dpt (upd cf c x) k = dpt cf k
  | 0, _ => rfl
  | k + 1, hk => by
    show (if 0 ≤ upd cf c x k then dpt (upd cf c x) k + 1 else if upd cf c x k = -10 then dpt (upd cf c x) k else dpt (upd cf c x) k - 1) = _
    rw [upd_ne (by omega), dpt_u k (by omega)]
    rfl
theorem VC.up {L : Int32} {cf : Fl} {c : Nat} {x : Int32} (h : VC L cf c) (hx : vcd L x (dpt cf c)) : VC L (upd cf c x) (c + 1) := fun k hk => by
  rw [dpt_u k (by omega)]
  by_cases e : k = c
  · rw [e, upd_eq]; exact hx
  · rw [upd_ne e]; exact h k (by omega)
theorem dpt_s {cf : Fl} {c : Nat} {x : Int32} : dpt (upd cf c x) (c + 1) = if 0 ≤ x then dpt cf c + 1 else if x = -10 then dpt cf c else dpt cf c - 1 := by
  show (if 0 ≤ upd cf c x c then dpt (upd cf c x) c + 1 else if upd cf c x c = -10 then dpt (upd cf c x) c else dpt (upd cf c x) c - 1) = _
  rw [upd_eq, dpt_u c (Nat.le_refl _)]
theorem wfd_ok {cf : Fl} {c : Nat} {L : Int32} (hL : L ≤ 10003) (h : VC L cf c) (h1 : dpt cf c = 1) : ∀ j, j ≤ c → wfd ((cdl cf c).drop (c - j)) (dpt cf (c - j)) = true
  | 0, _ => by rw [Nat.sub_zero, cdl_end, h1]; rfl
  | j + 1, hj => by
    have ih := wfd_ok hL h h1 j (by omega)
    have e : c - j = c - (j + 1) + 1 := by omega
    have hk : c - (j + 1) < c := by omega
    rw [cdl_drop hk, wfd]
    rw [e] at ih
    have hd : dpt cf (c - (j + 1) + 1) = if 0 ≤ cf (c - (j + 1)) then dpt cf (c - (j + 1)) + 1 else if cf (c - (j + 1)) = -10 then dpt cf (c - (j + 1)) else dpt cf (c - (j + 1)) - 1 := rfl
    rcases h _ hk with ⟨q1, q2, q3⟩ | ⟨q1, q2⟩ | ⟨q1, q2, q3, q4⟩
    · rw [if_pos q1] at hd
      rw [if_pos q1, decide_eq_true q3, decide_eq_true (Int32.lt_of_lt_of_le q2 hL), Bool.true_and, Bool.true_and, ← hd]
      exact ih
    · rw [q1] at hd ⊢
      rw [if_neg (by decide), if_pos rfl] at hd
      rw [if_neg (by decide), if_pos rfl, decide_eq_true q2, Bool.true_and, ← hd]
      exact ih
    · rw [if_neg q2, if_neg q3] at hd
      rw [if_neg q2, if_neg q3, decide_eq_true q4, decide_eq_true q1, Bool.true_and, Bool.true_and, ← hd]
      exact ih
theorem wfd_of {cf : Fl} {c : Nat} {L : Int32} (hL : L ≤ 10003) (h : VC L cf c) (h1 : dpt cf c = 1) : wfd (cdl cf c) 0 = true := by
  have := wfd_ok hL h h1 c (Nat.le_refl _)
  rw [Nat.sub_self] at this
  exact this
/-- how many signs between two pieces wait -/
def bin (wf : Fl) (h : Nat) : Nat := ctr (fun k => decide (¬ wf k = -10 ∧ ¬ wf k = -11)) h
theorem bin_s {wf : Fl} {h : Nat} : bin wf (h + 1) = bin wf h + (if ¬ wf h = -10 ∧ ¬ wf h = -11 then 1 else 0) := by
  show ctr _ h + _ = _
  simp only [decide_eq_true_eq]
  rfl
theorem bin_u {wf : Fl} {h : Nat} {x : Int32} : bin (upd wf h x) (h + 1) = bin wf h + (if ¬ x = -10 ∧ ¬ x = -11 then 1 else 0) := by
  show ctr _ h + _ = _
  rw [ctr_cong (q := fun k => decide (¬ wf k = -10 ∧ ¬ wf k = -11)) (fun k hk => by rw [upd_ne (by omega)])]
  simp only [upd_eq, decide_eq_true_eq]
  rfl
theorem sgs_n : sgs.all (fun x => decide (¬ 0 ≤ x ∧ (x = -11 ∨ -10 ≤ x))) = true := by decide +kernel
theorem sgs_v {x : Int32} (h : x ∈ sgs) : ¬ 0 ≤ x ∧ (x = -11 ∨ -10 ≤ x) := of_decide_eq_true (List.all_eq_true.mp sgs_n x h)
theorem stl_D {L : Int32} {wf : Fl} {ls : Int32} : ∀ (h : Nat) (cf : Fl) (c : Nat), SV wf h → VC L cf c → dpt cf c = bin wf h + 1 → VC L (stl wf ls h cf c).1 (stl wf ls h cf c).2.1 ∧ dpt (stl wf ls h cf c).1 (stl wf ls h cf c).2.1 = bin wf (stl wf ls h cf c).2.2 + 1
  | 0, cf, c, _, hv, hd => ⟨hv, hd⟩
  | h + 1, cf, c, hs, hv, hd => by
    by_cases e : ¬ wf h = -11 ∧ ls ≤ rnk (wf h)
    · rw [stl_y e]
      have hm := sgs_v (hs h (by omega))
      rw [bin_s] at hd
      by_cases e10 : wf h = -10
      · rw [if_neg (fun q => q.1 e10)] at hd
        refine stl_D h _ _ (hs.le (by omega)) (hv.up (Or.inr (Or.inl ⟨e10, by omega⟩))) ?_
        rw [dpt_s, if_neg hm.1, if_pos e10]; omega
      · rw [if_pos ⟨e10, e.1⟩] at hd
        refine stl_D h _ _ (hs.le (by omega)) (hv.up (Or.inr (Or.inr ⟨hm.2.resolve_left e.1, hm.1, e10, by omega⟩))) ?_
        rw [dpt_s, if_neg hm.1, if_neg e10]; omega
    · rw [stl_n e]; exact ⟨hv, hd⟩
/-- the code fits, so far -/
def DV (L : Int32) (z : PZ) : Prop := SV (zwf z) (zh z) ∧ VC L (zcf z) (zc z) ∧ dpt (zcf z) (zc z) = bin (zwf z) (zh z) + (if zwt z = true then 0 else 1)
theorem DV.ps {L : Int32} {z : PZ} {x : Int32} (h : DV L z) (hw : zwt z = true) (hx : x = -10 ∨ x = -11) : DV L (psh z x) := by
  obtain ⟨h1, h2, h3⟩ := h
  refine ⟨h1.up (by rcases hx with q | q <;> rw [q]; exact mem_11.1; exact mem_11.2), h2, ?_⟩
  show dpt (zcf z) (zc z) = bin (upd (zwf z) (zh z) x) (zh z + 1) + (if zwt z = true then 0 else 1)
  rw [bin_u, if_neg (fun q => hx.elim q.1 q.2), h3]
  rfl
theorem DV.pt {L : Int32} {z : PZ} {x : Int32} (h : DV L z) (hw : zwt z = true) (hc : zc z < 96) (hx : 0 ≤ x ∧ x < L) : DV L (ptZ z x) := by
  obtain ⟨h1, h2, h3⟩ := h
  rw [if_pos hw] at h3
  have hd := dpt_le (cf := zcf z) (zc z)
  have := stl_D (L := L) (wf := zwf z) (ls := 6) (zh z) (upd (zcf z) (zc z) x) (zc z + 1) h1 (h2.up (Or.inl ⟨hx.1, hx.2, by omega⟩)) (by rw [dpt_s, if_pos hx.1]; omega)
  exact ⟨h1.le (stl_c _ _ _).2.1, this.1, this.2⟩
theorem DV.cl {L : Int32} {f : Nat} {z : PZ} (h : DV L z) (hI : IV f z) (hw : zwt z = false) (hp : 0 < zp z) : DV L (clZ z) := by
  obtain ⟨k, e1, e2, e3⟩ := cl_h hI hp
  obtain ⟨h1, h2, h3⟩ := h
  rw [if_neg (by rw [hw]; decide)] at h3
  have q := stl_D (L := L) (wf := zwf z) (ls := 0) (zh z) (zcf z) (zc z) h1 h2 h3
  have e1' : (stl (zwf z) 0 (zh z) (zcf z) (zc z)).2.2 = k + 1 := e1
  have ek : zh (sz z 0) - 1 = k := by omega
  have ho := stl_o (wf := zwf z) (ls := 0) (zh z) (zcf z) (zc z)
  have h11 : zwf z k = -11 := by
    rcases stl_t (wf := zwf z) (ls := 0) (zh z) (zcf z) (zc z) with r | ⟨k2, r1, r2, r3⟩
    · omega
    · have : k2 = k := by omega
      subst this
      exact r3.resolve_right (fun r => r (rnk_0 _))
  rw [e1', bin_s, if_neg (fun r => r.2 h11)] at q
  have q2 := stl_D (L := L) (wf := zwf z) (ls := 6) k (zcf (sz z 0)) (zc (sz z 0)) (h1.le (by omega)) q.1 q.2
  unfold clZ
  rw [ek]
  refine ⟨(h1.le (show k ≤ zh z by omega)).le (stl_c _ _ _).2.1, q2.1, ?_⟩
  rw [if_neg (show ¬ zwt (sz (hpZ (sz z 0) k (zp z - 1)) 6) = true by show ¬ zwt z = true; rw [hw]; decide)]
  exact q2.2
theorem DV.sg {L : Int32} {z : PZ} {g : Int32} (h : DV L z) (hw : zwt z = false) (hg : g ∈ sgs) (h9 : ¬ g = -10 ∧ ¬ g = -11) : DV L (sgZ z g) := by
  obtain ⟨h1, h2, h3⟩ := h
  rw [if_neg (by rw [hw]; decide)] at h3
  have q := stl_D (L := L) (wf := zwf z) (ls := rnk g) (zh z) (zcf z) (zc z) h1 h2 h3
  refine ⟨(h1.le (stl_c (zh z) (zcf z) (zc z)).2.1).up hg, q.1, ?_⟩
  rw [if_pos (show zwt (sgZ z g) = true from rfl)]
  show dpt (stl (zwf z) (rnk g) (zh z) (zcf z) (zc z)).1 (stl (zwf z) (rnk g) (zh z) (zcf z) (zc z)).2.1 = bin (upd (zwf z) (stl (zwf z) (rnk g) (zh z) (zcf z) (zc z)).2.2 g) ((stl (zwf z) (rnk g) (zh z) (zcf z) (zc z)).2.2 + 1) + 0
  rw [bin_u, if_pos h9, q.2]
theorem DV.e {L : Int32} {f : Nat} {z : PZ} (h : DV L z) (hI : IV f z) (hw : zwt z = false) (hp : zp z = 0) : VC L (zcf (sz z 0)) (zc (sz z 0)) ∧ dpt (zcf (sz z 0)) (zc (sz z 0)) = 1 := by
  obtain ⟨h1, h2, h3⟩ := h
  rw [if_neg (by rw [hw]; decide)] at h3
  have q := stl_D (L := L) (wf := zwf z) (ls := 0) (zh z) (zcf z) (zc z) h1 h2 h3
  refine ⟨q.1, ?_⟩
  have ho := (stl_o (wf := zwf z) (ls := 0) (zh z) (zcf z) (zc z)).trans (hI.2.1.trans hp)
  rcases stl_t (wf := zwf z) (ls := 0) (zh z) (zcf z) (zc z) with r | ⟨k, r1, r2, r3⟩
  · have := q.2
    rw [r] at this
    exact this
  · rw [r1, opn_s, if_pos (r3.resolve_right (fun r => r (rnk_0 _)))] at ho
    omega
end
