/-! THE PURE PART, 97: objects in the making: all is as it will be, but at places that are told -/
/-- numbers, when all has been made -/
def n0 (xs : Nat → Int32) : Rf → Nat → Int32 := fun r k => match r.1 with
  | 0 => xs k
  | 1 => sabv.getD k 0
  | 3 => (sbyt.getD r.2.1 []).getD k 0
  | 11 => if k = 9 then 3 else if k = 15 then 1 else 0
  | 12 => if k = 2 then 1 else 0
  | 14 => if k < 12 then 4 else 0
  | 20 => if k = 11 then 1 else 0
  | 28 => if k = 1 then -1 else 0
  | 31 => if k = 2 then 1 else 0
  | 32 => if k = 1 then -1 else 0
  | 41 => (match r.2.1 with
    | 0 => if k = 0 then 1 else if k = 3 then 3 else if 21 ≤ k ∧ k < 33 then 4 else 0
    | 6 => if k = 1 then 5 else if k = 2 then 8 else if k = 3 then 12 else 0
    | 12 => if k < 4 then -1 else 0
    | _ => 0)
  | 42 => kc k
  | _ => 0
/-- the state when all has been made -/
def zs0 (L : Nat) (xs : Nat → Int32) (S : Nat) : Sn := (n0 xs, fun _ _ => none, (L, fun _ => 0), 0, S)
abbrev Pp : Type := Rf → Nat → Prop
def nilP : Pp := fun _ _ => False
def Ge (L : Nat) (xs : Nat → Int32) (A B : Pp) (x : Sx) : Prop := (∀ z j, ¬ A z j → x.1 z j = n0 xs z j) ∧ (∀ z j, ¬ B z j → x.2.1 z j = rfs (fun _ _ => none) z j) ∧ x.2.2.1 = lnf (L, fun _ => 0)
/-- so many cells, so many slots at most -/
def Cn (x : Sx) (N : Nat) : Prop := x.2.2.2.1 = N ∧ x.2.2.2.2 ≤ 2000 * N
def lj (A : Pp) (r : Rf) (l : List Nat) : Pp := fun z k => A z k ∨ (z = r ∧ k ∈ l)
def rg (A : Pp) (r : Rf) (m n : Nat) : Pp := fun z k => A z k ∨ (z = r ∧ m ≤ k ∧ k < n)
theorem lj_tl {A : Pp} {r : Rf} {j : Nat} {l : List Nat} : ∀ z k, lj A r (j :: l) z k → ¬ (z = r ∧ k = j) → lj A r l z k := fun z k h hn => h.elim Or.inl (fun q => (List.mem_cons.mp q.2).elim (fun e => absurd ⟨q.1, e⟩ hn) (fun e => Or.inr ⟨q.1, e⟩))
theorem lj_nil {A : Pp} {r : Rf} {z : Rf} {k : Nat} (h : lj A r [] z k) : A z k := h.elim id (fun q => absurd q.2 (by simp))
theorem lj_in {A A' : Pp} {r y : Rf} {j : Nat} {l : List Nat} (h : ∀ z k, A z k → ¬ (z = y ∧ k = j) → A' z k) : ∀ z k, lj A r l z k → ¬ (z = y ∧ k = j) → lj A' r l z k := fun z k hz hn => hz.elim (fun q => Or.inl (h z k q hn)) Or.inr
theorem rg_in {A A' : Pp} {r y : Rf} {j m n : Nat} (h : ∀ z k, A z k → ¬ (z = y ∧ k = j) → A' z k) : ∀ z k, rg A r m n z k → ¬ (z = y ∧ k = j) → rg A' r m n z k := fun z k hz hn => hz.elim (fun q => Or.inl (h z k q hn)) Or.inr
theorem rg_st {A : Pp} {r : Rf} {m n : Nat} : ∀ z k, rg A r m n z k → ¬ (z = r ∧ k = m) → rg A r (m + 1) n z k := fun z k h hn => h.elim Or.inl (fun q => Or.inr ⟨q.1, by have : k ≠ m := fun e => hn ⟨q.1, e⟩; omega, q.2.2⟩)
theorem rg_nil {A : Pp} {r : Rf} {n : Nat} {z : Rf} {k : Nat} (h : rg A r n n z k) : A z k := h.elim id (fun q => by omega)
theorem lj_no {A : Pp} {r z : Rf} {l : List Nat} {k : Nat} (h : ¬ A z k) (hz : ¬ (z = r ∧ k ∈ l)) : ¬ lj A r l z k := fun q => q.elim h hz
theorem rg_no {A : Pp} {r z : Rf} {m n : Nat} {k : Nat} (h : ¬ A z k) (hz : ¬ (z = r ∧ m ≤ k ∧ k < n)) : ¬ rg A r m n z k := fun q => q.elim h hz
section
variable {d : Nat} {μ : Mu} {pc q k : Nat} {l : Lv} {st : List Av} {P : Option Av → St → Prop} {x : Sx} {L : Nat} {xs : Nat → Int32} {A A' B B' : Pp} {r : Rf} {N N' : Nat}
theorem Ge.mo (h : Ge L xs A B x) (hA : ∀ z k, A z k → A' z k) (hB : ∀ z k, B z k → B' z k) : Ge L xs A' B' x := ⟨fun z j hz => h.1 z j (fun q => hz (hA z j q)), fun z j hz => h.2.1 z j (fun q => hz (hB z j q)), h.2.2⟩
theorem Ge.pi {j : Nat} {v : Int32} (h : Ge L xs A B x) (hv : v = n0 xs r j) (hA : ∀ z k, A z k → ¬ (z = r ∧ k = j) → A' z k) : Ge L xs A' B (pI x r j v) := ⟨fun z k hk => by
  show (if z = r ∧ k = j then v else x.1 z k) = _
  by_cases e : z = r ∧ k = j
  · rw [if_pos e, e.1, e.2]; exact hv
  · rw [if_neg e]; exact h.1 z k (fun q => hk (hA z k q e)), h.2.1, h.2.2⟩
theorem Ge.pr {j : Nat} {v : Option Rf} (h : Ge L xs A B x) (hv : v = rfs (fun _ _ => none) r j) (hB : ∀ z k, B z k → ¬ (z = r ∧ k = j) → B' z k) : Ge L xs A B' (pR x r j v) := ⟨h.1, fun z k hk => by
  show (if z = r ∧ k = j then v else x.2.1 z k) = _
  by_cases e : z = r ∧ k = j
  · rw [if_pos e, e.1, e.2]; exact hv
  · rw [if_neg e]; exact h.2.1 z k (fun q => hk (hB z k q e)), h.2.2⟩
theorem Ge.nw {ln sl : Nat} (h : Ge L xs A B x) (hq : qmk x.2.2.2.1 = r) (hl : lnf (L, fun _ => 0) r = ln) (hA : ∀ z k, A z k → A' z k) (a2 : ∀ k, ¬ A' r k → n0 xs r k = 0) (hB : ∀ z k, B z k → B' z k) (b2 : ∀ k, ¬ B' r k → rfs (fun _ _ => none) r k = none) : Ge L xs A' B' (nwX x ln sl) := by
  refine ⟨fun z k hk => ?_, fun z k hk => ?_, ?_⟩
  · show (if z = qmk x.2.2.2.1 then 0 else x.1 z k) = _
    rw [hq]
    by_cases e : z = r
    · rw [if_pos e]; subst e; exact (a2 k hk).symm
    · rw [if_neg e]; exact h.1 z k (fun q => hk (hA z k q))
  · show (if z = qmk x.2.2.2.1 then none else x.2.1 z k) = _
    rw [hq]
    by_cases e : z = r
    · rw [if_pos e]; subst e; exact (b2 k hk).symm
    · rw [if_neg e]; exact h.2.1 z k (fun q => hk (hB z k q))
  · funext z
    show (if z = qmk x.2.2.2.1 then ln else x.2.2.1 z) = _
    rw [hq]
    by_cases e : z = r
    · rw [if_pos e, e]; exact hl.symm
    · rw [if_neg e, h.2.2]
theorem Cn.nw {ln sl : Nat} (h : Cn x N) (e : N + 1 = N') (hs : sl ≤ 2000) : Cn (nwX x ln sl) N' := ⟨by show x.2.2.2.1 + 1 = N'; rw [h.1, e], by show x.2.2.2.2 + sl ≤ _; have := h.2; omega⟩
theorem okG (hn : Cn x N) (h5 : 5 ≤ r.1) (hlt : qoff r < N) (hq : qmk (qoff r) = r) : okr (hs x) r = true := by
  unfold okr
  simp only [Bool.and_eq_true, decide_eq_true_eq]
  exact ⟨h5, by show qoff r < x.2.2.2.1; rw [hn.1]; exact hlt, hq⟩
theorem wg_new {ci : Nat} (hd : decode μ.1 pc = .ok (.new k, 3)) (hf : nwc μ.2.1.cls k = some ci) (hn : Cn x N) (hq : qmk N = r) (hk : kd r.1 = ci) (h2 : ∀ q, dfv (tyOf ci q) = if isI r.1 q = true then vI 0 else .inr (.inr none)) (hs2 : nFl ci ≤ 2000) (hl : lnf (L, fun _ => 0) r = 0) (hG : Ge L xs A B x) (hA : ∀ z k, A z k → A' z k) (a2 : ∀ k, ¬ A' r k → n0 xs r k = 0) (hB : ∀ z k, B z k → B' z k) (b2 : ∀ k, ¬ B' r k → rfs (fun _ _ => none) r k = none) (eN : N + 1 = N') (e : pc + 3 = q) (kk : ∀ y, Ge L xs A' B' y → Cn y N' → Wp d μ q l (.inr (.inr (some r)) :: st) (hs y) P) : Wp d μ pc l st (hs x) P := by
  have hq2 : qmk x.2.2.2.1 = r := by rw [hn.1]; exact hq
  refine wp_new hd hf (by rw [hq2]; exact hk) (by rw [hq2]; exact h2) e ?_
  rw [hq2]
  exact kk _ (hG.nw hq2 hl hA a2 hB b2) (hn.nw eN hs2)
theorem wg_newarr {t : ArrayType} {v : Int32} {M : Nat} (hd : decode μ.1 pc = .ok (.newarray t, 2)) (h14 : nwk t < 14) (hn : Cn x N) (hq : qmk N = r) (hk : kd r.1 = nwk t) (hx : 0 ≤ v ∧ v.toNatClampNeg = M) (hM : M ≤ 2000) (ho : okw (.arrayClass (newarray.typeOf t)) = true) (hi : isA r.1 = true) (hl : lnf (L, fun _ => 0) r = M) (hG : Ge L xs A B x) (hA : ∀ z k, A z k → A' z k) (a2 : ∀ k, ¬ A' r k → n0 xs r k = 0) (hB : ∀ z k, B z k → B' z k) (b2 : ∀ k, ¬ B' r k → rfs (fun _ _ => none) r k = none) (eN : N + 1 = N') (e : pc + 2 = q) (kk : ∀ y, Ge L xs A' B' y → Cn y N' → Wp d μ q l (.inr (.inr (some r)) :: st) (hs y) P) : Wp d μ pc l (vI v :: st) (hs x) P := by
  have hq2 : qmk x.2.2.2.1 = r := by rw [hn.1]; exact hq
  refine wp_newarr hd h14 (by rw [hq2]; exact hk) hx (by omega) ho (by rw [hq2]; exact hi) e ?_
  rw [hq2]
  exact kk _ (hG.nw hq2 hl hA a2 hB b2) (hn.nw eN hM)
theorem wp_anew {v : Int32} {M kq : Nat} (hd : decode μ.1 pc = .ok (.anewarray k, 3)) (hf : nwa μ.2.1.cls k = some kq) (hk : kd (qmk x.2.2.2.1).1 = kq) (hx : 0 ≤ v ∧ v.toNatClampNeg = M) (hM : M ≤ 100000) (hi : ∀ j, isI (qmk x.2.2.2.1).1 j = false) (e : pc + 3 = q) (kk : Wp d μ q l (.inr (.inr (some (qmk x.2.2.2.1))) :: st) (hs (nwX x M M)) P) : Wp d μ pc l (vI v :: st) (hs x) P := by
  refine wp_sC (pc' := q) (st' := .inr (.inr (some (qmk x.2.2.2.1))) :: st) (σ1 := hs (nwX x M M)) hd rfl rfl ?_ kk
  simp only [sC]
  rw [if_pos trivial, hf]
  show (if kd (qmk x.2.2.2.1).1 = kq ∧ 0 ≤ v ∧ v.toNatClampNeg ≤ 100000 then some (pc + 3, .inr (.inr (some (qmk x.2.2.2.1))) :: st, alc (hs x) (fun _ => vN) v.toNatClampNeg v.toNatClampNeg) else none) = _
  rw [hx.2, if_pos ⟨hk, hx.1, hM⟩, e, alc_nw (fun j => (if_neg (by rw [hi j]; decide)).symm)]
theorem wg_anew {v : Int32} {M kq : Nat} (hd : decode μ.1 pc = .ok (.anewarray k, 3)) (hf : nwa μ.2.1.cls k = some kq) (hn : Cn x N) (hq : qmk N = r) (hk : kd r.1 = kq) (hx : 0 ≤ v ∧ v.toNatClampNeg = M) (hM : M ≤ 2000) (hi : ∀ j, isI r.1 j = false) (hl : lnf (L, fun _ => 0) r = M) (hG : Ge L xs A B x) (hA : ∀ z k, A z k → A' z k) (a2 : ∀ k, ¬ A' r k → n0 xs r k = 0) (hB : ∀ z k, B z k → B' z k) (b2 : ∀ k, ¬ B' r k → rfs (fun _ _ => none) r k = none) (eN : N + 1 = N') (e : pc + 3 = q) (kk : ∀ y, Ge L xs A' B' y → Cn y N' → Wp d μ q l (.inr (.inr (some r)) :: st) (hs y) P) : Wp d μ pc l (vI v :: st) (hs x) P := by
  have hq2 : qmk x.2.2.2.1 = r := by rw [hn.1]; exact hq
  refine wp_anew hd hf (by rw [hq2]; exact hk) hx (by omega) (by rw [hq2]; exact hi) e ?_
  rw [hq2]
  exact kk _ (hG.nw hq2 hl hA a2 hB b2) (hn.nw eN hM)
variable {ci f : Nat}
theorem wg_putI {v : Int32} (hd : decode μ.1 pc = .ok (.putfield k, 3)) (hf : fld μ.2.1.cls k = some (ci, f)) (ho : okr (hs x) r = true) (hc : pok r.1 ci f μ.2.1.cls μ.2.1.name = true) (ht : tyOf ci f = .int) (hn : Cn x N) (hG : Ge L xs A B x) (hv : v = n0 xs r f) (hA : ∀ z k, A z k → ¬ (z = r ∧ k = f) → A' z k) (e : pc + 3 = q) (kk : ∀ y, Ge L xs A' B y → Cn y N → Wp d μ q l st (hs y) P) : Wp d μ pc l (vI v :: .inr (.inr (some r)) :: st) (hs x) P := wp_putI hd hf ho hc ht e (kk _ (hG.pi hv hA) hn)
theorem wg_putZ {v : Int32} (hd : decode μ.1 pc = .ok (.putfield k, 3)) (hf : fld μ.2.1.cls k = some (ci, f)) (ho : okr (hs x) r = true) (hc : pok r.1 ci f μ.2.1.cls μ.2.1.name = true) (ht : tyOf ci f = .boolean) (h01 : v = 0 ∨ v = 1) (hn : Cn x N) (hG : Ge L xs A B x) (hv : v = n0 xs r f) (hA : ∀ z k, A z k → ¬ (z = r ∧ k = f) → A' z k) (e : pc + 3 = q) (kk : ∀ y, Ge L xs A' B y → Cn y N → Wp d μ q l st (hs y) P) : Wp d μ pc l (vI v :: .inr (.inr (some r)) :: st) (hs x) P := wp_putZ hd hf ho hc ht h01 e (kk _ (hG.pi hv hA) hn)
theorem wg_putR {v : Option Rf} (hd : decode μ.1 pc = .ok (.putfield k, 3)) (hf : fld μ.2.1.cls k = some (ci, f)) (ho : okr (hs x) r = true) (hc : pokR r.1 ci f μ.2.1.cls μ.2.1.name = true) (hv0 : fok (tyOf ci f) (.inr (.inr v)) = true) (hn : Cn x N) (hG : Ge L xs A B x) (hv : v = rfs (fun _ _ => none) r f) (hB : ∀ z k, B z k → ¬ (z = r ∧ k = f) → B' z k) (e : pc + 3 = q) (kk : ∀ y, Ge L xs A B' y → Cn y N → Wp d μ q l st (hs y) P) : Wp d μ pc l (.inr (.inr v) :: .inr (.inr (some r)) :: st) (hs x) P := wp_putR hd hf ho hc hv0 e (kk _ (hG.pr hv hB) hn)
theorem wg_getR {o : Option Rf} (hd : decode μ.1 pc = .ok (.getfield k, 3)) (hf : fld μ.2.1.cls k = some (ci, f)) (ho : okr (hs x) r = true) (hc : gokR r.1 ci f = true) (hG : Ge L xs A B x) (hB : ¬ B r f) (hv : rfs (fun _ _ => none) r f = o) (e : pc + 3 = q) (kk : Wp d μ q l (.inr (.inr o) :: st) (hs x) P) : Wp d μ pc l (.inr (.inr (some r)) :: st) (hs x) P := wp_getR hd hf ho hc ((hG.2.1 r f hB).trans hv) e kk
theorem wg_iast {v w : Int32} {j : Nat} (hd : decode μ.1 pc = .ok (.iastore, 1)) (ho : okr (hs x) r = true) (hc : (decide (kd r.1 = 10) && isA r.1) = true) (hx : 0 ≤ w ∧ w.toNatClampNeg = j) (hj : j < lnf (L, fun _ => 0) r) (hn : Cn x N) (hG : Ge L xs A B x) (hv : v = n0 xs r j) (hA : ∀ z k, A z k → ¬ (z = r ∧ k = j) → A' z k) (e : pc + 1 = q) (kk : ∀ y, Ge L xs A' B y → Cn y N → Wp d μ q l st (hs y) P) : Wp d μ pc l (vI v :: vI w :: .inr (.inr (some r)) :: st) (hs x) P := wp_iast hd ho hc hx (by rw [hG.2.2]; exact hj) e (kk _ (hG.pi hv hA) hn)
theorem wg_cast {v w : Int32} {j : Nat} (hd : decode μ.1 pc = .ok (.castore, 1)) (ho : okr (hs x) r = true) (hc : (decide (kd r.1 = 13) && isA r.1) = true) (hx : 0 ≤ w ∧ w.toNatClampNeg = j) (hj : j < lnf (L, fun _ => 0) r) (hn : Cn x N) (hG : Ge L xs A B x) (hv : vp_nar .char v = n0 xs r j) (hA : ∀ z k, A z k → ¬ (z = r ∧ k = j) → A' z k) (e : pc + 1 = q) (kk : ∀ y, Ge L xs A' B y → Cn y N → Wp d μ q l st (hs y) P) : Wp d μ pc l (vI v :: vI w :: .inr (.inr (some r)) :: st) (hs x) P := wp_cast hd ho hc hx (by rw [hG.2.2]; exact hj) e (kk _ (hG.pi hv hA) hn)
theorem wg_aast {w : Int32} {j : Nat} {z : Rf} (hd : decode μ.1 pc = .ok (.aastore, 1)) (ho : okr (hs x) r = true) (hc : (decide (14 ≤ kd r.1) && (decide (kd r.1 < 18) && !isI r.1 j)) = true) (hx : 0 ≤ w ∧ w.toNatClampNeg = j) (hj : j < lnf (L, fun _ => 0) r) (hz : okr (hs x) z = true) (hk : kd z.1 = ecl (kd r.1)) (hn : Cn x N) (hG : Ge L xs A B x) (hv : some z = rfs (fun _ _ => none) r j) (hB : ∀ z k, B z k → ¬ (z = r ∧ k = j) → B' z k) (e : pc + 1 = q) (kk : ∀ y, Ge L xs A B' y → Cn y N → Wp d μ q l st (hs y) P) : Wp d μ pc l (.inr (.inr (some z)) :: vI w :: .inr (.inr (some r)) :: st) (hs x) P := wp_aast hd ho hc hx (by rw [hG.2.2]; exact hj) (fun y hy => by cases hy; exact ⟨hz, hk⟩) e (kk _ (hG.pr hv hB) hn)
/-- what a constructor leaves -/
def Pg (L : Nat) (xs : Nat → Int32) (A B : Pp) (N : Nat) : Option Av → St → Prop := fun v σ => v = none ∧ ∃ y, σ = hs y ∧ Ge L xs A B y ∧ Cn y N
theorem wg_init {μ' : Mu} {rest : List Av} {σ : St} (hd : decode μ.1 pc = .ok (.invokespecial k, 3)) (hr : rsl 2 μ.2.1.cls k = some (μ', 0)) (h5 : 5 ≤ r.1) (hl : 1 ≤ μ'.2.2.1) (h8 : (rest.map qcat).sum ≤ 8) (e : pc + 3 = q) (hc : Ca d μ' [.inr (.inr (some r))] σ (Pg L xs A B N)) (kk : ∀ y, Ge L xs A B y → Cn y N → Wp (d + 1) μ q l rest (hs y) P) : Wp (d + 1) μ pc l (.inr (.inr (some r)) :: rest) σ P := wp_callI0 hd hr h5 hl h8 e hc (fun v σ1 h => by obtain ⟨rfl, y, rfl, h1, h2⟩ := h; exact kk y h1 h2)
end
