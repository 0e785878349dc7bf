/-! THE PURE PART, 2: typed heaps: whole numbers apart from references -/
abbrev Sx : Type := (Rf → Nat → Int32) × (Rf → Nat → Option Rf) × (Rf → Nat) × Nat × Nat
def isI (t k : Nat) : Bool := match t with
  | 2 => decide (k = 0)
  | 4 => false
  | 10 => decide (8 ≤ k)
  | 11 => decide (6 ≤ k)
  | 13 => false
  | 18 => false
  | 20 => decide (3 ≤ k)
  | 21 => decide (1 ≤ k)
  | 25 => false
  | 26 => false
  | 28 => decide (1 ≤ k)
  | 30 => decide (2 ≤ k)
  | 32 => decide (1 ≤ k)
  | 34 => decide (k < 2)
  | 40 => !([0, 1, 2, 4, 5, 13, 14, 15, 18, 20, 21, 22, 23, 24, 25, 26, 27, 28, 29, 30, 31].contains k)
  | _ => true
def hp (s : Sx) : Hp := fun r k => if isI r.1 k = true then vI (s.1 r k) else .inr (.inr (s.2.1 r k))
def hs (s : Sx) : St := (hp s, s.2.2)
def pI (s : Sx) (r : Rf) (k : Nat) (v : Int32) : Sx := (fun z j => if z = r ∧ j = k then v else s.1 z j, s.2)
def pR (s : Sx) (r : Rf) (k : Nat) (v : Option Rf) : Sx := (s.1, fun z j => if z = r ∧ j = k then v else s.2.1 z j, s.2.2)
def pA (s : Sx) (r : Rf) (f : Nat → Int32) : Sx := (fun z j => if z = r then f j else s.1 z j, s.2)
theorem hp_I {s : Sx} {r : Rf} {k : Nat} (h : isI r.1 k = true) : hp s r k = vI (s.1 r k) := by unfold hp; rw [if_pos h]
theorem hp_R {s : Sx} {r : Rf} {k : Nat} (h : isI r.1 k = false) : hp s r k = .inr (.inr (s.2.1 r k)) := by unfold hp; rw [if_neg (by rw [h]; decide)]
theorem hput_I {s : Sx} {r : Rf} {k : Nat} {v : Int32} (h : isI r.1 k = true) : hput (hp s) r k (vI v) = hp (pI s r k v) := by
  funext z j
  unfold hput hp pI
  by_cases hz : z = r ∧ j = k
  · obtain ⟨rfl, rfl⟩ := hz
    rw [if_pos ⟨rfl, rfl⟩, if_pos h]; dsimp only; rw [if_pos ⟨rfl, rfl⟩]
  · rw [if_neg hz]; dsimp only; rw [if_neg hz]
theorem hput_R {s : Sx} {r : Rf} {k : Nat} {v : Option Rf} (h : isI r.1 k = false) : hput (hp s) r k (.inr (.inr v)) = hp (pR s r k v) := by
  funext z j
  unfold hput hp pR
  by_cases hz : z = r ∧ j = k
  · obtain ⟨rfl, rfl⟩ := hz
    rw [if_pos ⟨rfl, rfl⟩, if_neg (by rw [h]; decide)]; dsimp only; rw [if_pos ⟨rfl, rfl⟩]
  · rw [if_neg hz]; dsimp only; rw [if_neg hz]
theorem hnew_A {s : Sx} {r : Rf} {f : Nat → Int32} (h : ∀ k, isI r.1 k = true) : hnew (hp s) r (fun k => vI (f k)) = hp (pA s r f) := by
  funext z j
  unfold hnew hp pA
  by_cases hz : z = r
  · subst hz
    rw [if_pos rfl, if_pos (h j)]; dsimp only; rw [if_pos rfl]
  · rw [if_neg hz]; dsimp only; rw [if_neg hz]
/-- is an array of whole numbers -/
def isA (t : Nat) : Bool := [0, 1, 3, 14, 15, 16, 17, 22, 23, 24, 27, 29, 33, 35, 36, 41, 42, 43].contains t
theorem isA_I {t : Nat} (h : isA t = true) (k : Nat) : isI t k = true := by
  unfold isA at h
  simp only [List.contains_cons, List.contains_nil, Bool.or_eq_true, beq_iff_eq, Bool.or_false] at h
  rcases h with h | h | h | h | h | h | h | h | h | h | h | h | h | h | h | h | h | h <;> subst h <;> rfl
section TH
variable {d : Nat} {μ : Mu} {pc q : Nat} {l : Lv} {st : List Av} {P : Option Av → St → Prop} {s : Sx} {r : Rf} {ci f k : Nat}
theorem wp_ldc {σ : St} {v : Int32} (hd : decode μ.1 pc = .ok (.ldc k, 2)) (hf : fCst μ.2.1.cls k = some v) (e : pc + 2 = q) (kk : Wp d μ q l (vI v :: st) σ P) : Wp d μ pc l st σ P :=
  wp_sB (pc' := q) (st' := vI v :: st) hd rfl (by simp only [sB]; rw [if_pos trivial, hf]; dsimp only; rw [e]) kk
theorem wp_ldcw {σ : St} {v : Int32} (hd : decode μ.1 pc = .ok (.ldc_w k, 3)) (hf : fCst μ.2.1.cls k = some v) (e : pc + 3 = q) (kk : Wp d μ q l (vI v :: st) σ P) : Wp d μ pc l st σ P :=
  wp_sB (pc' := q) (st' := vI v :: st) hd rfl (by simp only [sB]; rw [if_pos trivial, hf]; dsimp only; rw [e]) kk
theorem wp_ldcS {σ : St} {j : Nat} (hd : decode μ.1 pc = .ok (.ldc k, 2)) (hf : fCst μ.2.1.cls k = none ∧ fStr μ.2.1.cls k = some j) (e : pc + 2 = q) (kk : Wp d μ q l (vR 2 j 0 :: st) σ P) : Wp d μ pc l st σ P :=
  wp_sB (pc' := q) (st' := vR 2 j 0 :: st) hd rfl (by simp only [sB]; rw [if_pos trivial, hf.1]; dsimp only; rw [hf.2]; dsimp only; rw [e]) kk
theorem wp_gets {σ : St} {v : Av} (hd : decode μ.1 pc = .ok (.getstatic k, 3)) (hf : sta μ.2.1.cls k = some v) (e : pc + 3 = q) (kk : Wp d μ q l (v :: st) σ P) : Wp d μ pc l st σ P :=
  wp_sB (pc' := q) (st' := v :: st) hd rfl (by simp only [sB]; rw [if_pos trivial, hf]; dsimp only; rw [e]) kk
def gok (t ci f : Nat) : Bool := decide (kd t = ci) && (decide (ci < 9) && isI t f)
def gokR (t ci f : Nat) : Bool := decide (kd t = ci) && (decide (ci < 9) && !isI t f)
theorem wp_getI (hd : decode μ.1 pc = .ok (.getfield k, 3)) (hf : fld μ.2.1.cls k = some (ci, f)) (ho : okr (hs s) r = true) (hc : gok r.1 ci f = true) (e : pc + 3 = q) (kk : Wp d μ q l (vI (s.1 r f) :: st) (hs s) P) : Wp d μ pc l (.inr (.inr (some r)) :: st) (hs s) P := by
  unfold gok at hc
  simp only [Bool.and_eq_true, decide_eq_true_eq] at hc
  refine wp_sB (pc' := q) (st' := vI (s.1 r f) :: st) hd rfl ?_ kk
  simp only [sB]
  rw [if_pos trivial, hf]
  dsimp only
  rw [if_pos ⟨hc.1, Or.inl ⟨hc.2.1, ho⟩⟩, e]
  show some (q, hp s r f :: st) = _
  rw [hp_I hc.2.2]
theorem wp_getR {o : Option Rf} (hd : decode μ.1 pc = .ok (.getfield k, 3)) (hf : fld μ.2.1.cls k = some (ci, f)) (ho : okr (hs s) r = true) (hc : gokR r.1 ci f = true) (hv : s.2.1 r f = o) (e : pc + 3 = q) (kk : Wp d μ q l (.inr (.inr o) :: st) (hs s) P) : Wp d μ pc l (.inr (.inr (some r)) :: st) (hs s) P := by
  unfold gokR at hc
  simp only [Bool.and_eq_true, decide_eq_true_eq, Bool.not_eq_true'] at hc
  refine wp_sB (pc' := q) (st' := .inr (.inr o) :: st) hd rfl ?_ kk
  simp only [sB]
  rw [if_pos trivial, hf]
  dsimp only
  rw [if_pos ⟨hc.1, Or.inl ⟨hc.2.1, ho⟩⟩, e]
  show some (q, hp s r f :: st) = _
  rw [hp_R hc.2.2, hv]
/-- a text's own field -/
theorem wp_getX {j : Nat} (hd : decode μ.1 pc = .ok (.getfield k, 3)) (hf : fld μ.2.1.cls k = some (20, f)) (hj : j < 6) (e : pc + 3 = q) (kk : Wp d μ q l (hp s (2, j, 0) f :: st) (hs s) P) : Wp d μ pc l (vR 2 j 0 :: st) (hs s) P := by
  refine wp_sB (pc' := q) (st' := hp s (2, j, 0) f :: st) hd rfl ?_ kk
  simp only [sB]
  rw [if_pos trivial, hf]
  dsimp only
  rw [if_pos ⟨rfl, Or.inr ⟨rfl, by unfold oks; exact decide_eq_true ⟨rfl, hj, rfl⟩⟩⟩, e]
  rfl
def pok (t ci f : Nat) (c n : String) : Bool := decide (kd t = ci) && (decide (ci < 9) && (isI t f && (fok (tyOf ci f) (vI 0) && ((qfin ci f == false) || (decide (n = "<init>") && decide ((vwCl[ci]?).map (fun z => (z.2.1 f).1) = some c))))))
theorem wp_putG {v : Int32} (hd : decode μ.1 pc = .ok (.putfield k, 3)) (hf : fld μ.2.1.cls k = some (ci, f)) (ho : okr (hs s) r = true) (hc : pok r.1 ci f μ.2.1.cls μ.2.1.name = true) (hv : fok (tyOf ci f) (vI v) = true) (e : pc + 3 = q) (kk : Wp d μ q l st (hs (pI s r f v)) P) : Wp d μ pc l (vI v :: .inr (.inr (some r)) :: st) (hs s) P := by
  unfold pok at hc
  simp only [Bool.and_eq_true, decide_eq_true_eq, Bool.or_eq_true, beq_iff_eq] at hc
  refine wp_sC (pc' := q) (st' := st) (σ1 := hs (pI s r f v)) hd rfl rfl ?_ kk
  simp only [sC]
  rw [if_pos trivial, hf]
  dsimp only
  rw [if_pos ⟨ho, hc.1, hc.2.1, hv, hc.2.2.2.2⟩, e]
  show some (q, st, (hput (hp s) r f (vI v), s.2.2)) = _
  rw [hput_I hc.2.2.1]
  rfl
theorem wp_putI {v : Int32} (hd : decode μ.1 pc = .ok (.putfield k, 3)) (hf : fld μ.2.1.cls k = some (ci, f)) (ho : okr (hs s) r = true) (hc : pok r.1 ci f μ.2.1.cls μ.2.1.name = true) (ht : tyOf ci f = .int) (e : pc + 3 = q) (kk : Wp d μ q l st (hs (pI s r f v)) P) : Wp d μ pc l (vI v :: .inr (.inr (some r)) :: st) (hs s) P :=
  wp_putG hd hf ho hc (by rw [ht]; rfl) e kk
theorem wp_putZ {v : Int32} (hd : decode μ.1 pc = .ok (.putfield k, 3)) (hf : fld μ.2.1.cls k = some (ci, f)) (ho : okr (hs s) r = true) (hc : pok r.1 ci f μ.2.1.cls μ.2.1.name = true) (ht : tyOf ci f = .boolean) (h01 : v = 0 ∨ v = 1) (e : pc + 3 = q) (kk : Wp d μ q l st (hs (pI s r f v)) P) : Wp d μ pc l (vI v :: .inr (.inr (some r)) :: st) (hs s) P :=
  wp_putG hd hf ho hc (by rw [ht]; exact decide_eq_true h01) e kk
def pokR (t ci f : Nat) (c n : String) : Bool := decide (kd t = ci) && (decide (ci < 9) && (!isI t f && (fok (tyOf ci f) vN && ((qfin ci f == false) || (decide (n = "<init>") && decide ((vwCl[ci]?).map (fun z => (z.2.1 f).1) = some c))))))
theorem wp_putR {v : Option Rf} (hd : decode μ.1 pc = .ok (.putfield k, 3)) (hf : fld μ.2.1.cls k = some (ci, f)) (ho : okr (hs s) r = true) (hc : pokR r.1 ci f μ.2.1.cls μ.2.1.name = true) (hv : fok (tyOf ci f) (.inr (.inr v)) = true) (e : pc + 3 = q) (kk : Wp d μ q l st (hs (pR s r f v)) P) : Wp d μ pc l (.inr (.inr v) :: .inr (.inr (some r)) :: st) (hs s) P := by
  unfold pokR at hc
  simp only [Bool.and_eq_true, decide_eq_true_eq, Bool.or_eq_true, beq_iff_eq, Bool.not_eq_true'] at hc
  refine wp_sC (pc' := q) (st' := st) (σ1 := hs (pR s r f v)) hd rfl rfl ?_ kk
  simp only [sC]
  rw [if_pos trivial, hf]
  dsimp only
  rw [if_pos ⟨ho, hc.1, hc.2.1, hv, hc.2.2.2.2⟩, e]
  show some (q, st, (hput (hp s) r f (.inr (.inr v)), s.2.2)) = _
  rw [hput_R hc.2.2.1]
  rfl
theorem nI_c {j n : Nat} (hj : j < n) (hn : n < 2 ^ 31) : 0 ≤ nI j ∧ (nI j).toNatClampNeg = j := ⟨nI_pos' (by omega), nI_clamp (by omega)⟩
theorem wp_iald {x : Int32} {j : Nat} (hd : decode μ.1 pc = .ok (.iaload, 1)) (ho : (okr (hs s) r || okx r) = true) (hc : (decide (kd r.1 = 10) && isA r.1) = true) (hx : 0 ≤ x ∧ x.toNatClampNeg = j) (hj : j < s.2.2.1 r) (e : pc + 1 = q) (kk : Wp d μ q l (vI (s.1 r j) :: st) (hs s) P) : Wp d μ pc l (vI x :: .inr (.inr (some r)) :: st) (hs s) P := by
  simp only [Bool.and_eq_true, decide_eq_true_eq] at hc
  refine wp_sB (pc' := q) (st' := vI (s.1 r j) :: st) hd rfl ?_ kk
  simp only [sB]
  unfold rdA
  rw [if_pos rfl]
  dsimp only
  rw [if_pos ⟨by rw [hc.1]; decide, ho, hx.1, by rw [hx.2]; exact hj⟩, e, hx.2]
  show some (q, vI (aI (hp s r j)) :: st) = _
  rw [hp_I (isA_I hc.2 j)]
  rfl
theorem wp_bald {x : Int32} {j : Nat} (hd : decode μ.1 pc = .ok (.baload, 1)) (ho : (okr (hs s) r || okx r) = true) (hc : (decide (kd r.1 = 11) && isA r.1) = true) (hx : 0 ≤ x ∧ x.toNatClampNeg = j) (hj : j < s.2.2.1 r) (e : pc + 1 = q) (kk : Wp d μ q l (vI (s.1 r j) :: st) (hs s) P) : Wp d μ pc l (vI x :: .inr (.inr (some r)) :: st) (hs s) P := by
  simp only [Bool.and_eq_true, decide_eq_true_eq] at hc
  refine wp_sB (pc' := q) (st' := vI (s.1 r j) :: st) hd rfl ?_ kk
  simp only [sB]
  unfold rdA
  rw [if_pos rfl]
  dsimp only
  rw [if_pos ⟨by rw [hc.1]; decide, ho, hx.1, by rw [hx.2]; exact hj⟩, e, hx.2]
  show some (q, vI (aI (hp s r j)) :: st) = _
  rw [hp_I (isA_I hc.2 j)]
  rfl
theorem wp_zald {x : Int32} {j : Nat} (hd : decode μ.1 pc = .ok (.baload, 1)) (ho : (okr (hs s) r || okx r) = true) (hc : (decide (kd r.1 = 12) && isA r.1) = true) (hx : 0 ≤ x ∧ x.toNatClampNeg = j) (hj : j < s.2.2.1 r) (e : pc + 1 = q) (kk : Wp d μ q l (vI (s.1 r j) :: st) (hs s) P) : Wp d μ pc l (vI x :: .inr (.inr (some r)) :: st) (hs s) P := by
  simp only [Bool.and_eq_true, decide_eq_true_eq] at hc
  refine wp_sB (pc' := q) (st' := vI (s.1 r j) :: st) hd rfl ?_ kk
  simp only [sB]
  unfold rdA
  rw [if_pos rfl]
  dsimp only
  rw [if_pos ⟨by rw [hc.1]; decide, ho, hx.1, by rw [hx.2]; exact hj⟩, e, hx.2]
  show some (q, vI (aI (hp s r j)) :: st) = _
  rw [hp_I (isA_I hc.2 j)]
  rfl
theorem wp_cald {x : Int32} {j : Nat} (hd : decode μ.1 pc = .ok (.caload, 1)) (ho : (okr (hs s) r || okx r) = true) (hc : (decide (kd r.1 = 13) && isA r.1) = true) (hx : 0 ≤ x ∧ x.toNatClampNeg = j) (hj : j < s.2.2.1 r) (e : pc + 1 = q) (kk : Wp d μ q l (vI (s.1 r j) :: st) (hs s) P) : Wp d μ pc l (vI x :: .inr (.inr (some r)) :: st) (hs s) P := by
  simp only [Bool.and_eq_true, decide_eq_true_eq] at hc
  refine wp_sB (pc' := q) (st' := vI (s.1 r j) :: st) hd rfl ?_ kk
  simp only [sB]
  unfold rdA
  rw [if_pos rfl]
  dsimp only
  rw [if_pos ⟨by rw [hc.1]; decide, ho, hx.1, by rw [hx.2]; exact hj⟩, e, hx.2]
  show some (q, vI (aI (hp s r j)) :: st) = _
  rw [hp_I (isA_I hc.2 j)]
  rfl
theorem wp_iast {x v : Int32} {j : Nat} (hd : decode μ.1 pc = .ok (.iastore, 1)) (ho : okr (hs s) r = true) (hc : (decide (kd r.1 = 10) && isA r.1) = true) (hx : 0 ≤ x ∧ x.toNatClampNeg = j) (hj : j < s.2.2.1 r) (e : pc + 1 = q) (kk : Wp d μ q l st (hs (pI s r j v)) P) : Wp d μ pc l (vI v :: vI x :: .inr (.inr (some r)) :: st) (hs s) P := by
  simp only [Bool.and_eq_true, decide_eq_true_eq] at hc
  refine wp_sC (pc' := q) (st' := st) (σ1 := hs (pI s r j v)) hd rfl rfl ?_ kk
  simp only [sC]
  unfold wrA
  rw [if_pos rfl]
  dsimp only
  rw [if_pos ⟨ho, hc.1, hx.1, by rw [hx.2]; exact hj⟩, e, hx.2]
  show some (q, st, (hput (hp s) r j (vI v), s.2.2)) = _
  rw [hput_I (isA_I hc.2 j)]
  rfl
theorem wp_bast {x v : Int32} {j : Nat} (hd : decode μ.1 pc = .ok (.bastore, 1)) (ho : okr (hs s) r = true) (hc : (decide (kd r.1 = 11) && isA r.1) = true) (hx : 0 ≤ x ∧ x.toNatClampNeg = j) (hj : j < s.2.2.1 r) (e : pc + 1 = q) (kk : Wp d μ q l st (hs (pI s r j (vp_nar .byte v))) P) : Wp d μ pc l (vI v :: vI x :: .inr (.inr (some r)) :: st) (hs s) P := by
  simp only [Bool.and_eq_true, decide_eq_true_eq] at hc
  refine wp_sC (pc' := q) (st' := st) (σ1 := hs (pI s r j (vp_nar .byte v))) hd rfl rfl ?_ kk
  simp only [sC]
  rw [show wrA 11 (vp_nar .byte) 1 pc (vI v :: vI x :: .inr (.inr (some r)) :: st) (hs s) = some (q, st, hs (pI s r j (vp_nar .byte v))) from ?_]
  unfold wrA
  rw [if_pos rfl]
  dsimp only
  rw [if_pos ⟨ho, hc.1, hx.1, by rw [hx.2]; exact hj⟩, e, hx.2]
  show some (q, st, (hput (hp s) r j (vI (vp_nar .byte v)), s.2.2)) = _
  rw [hput_I (isA_I hc.2 j)]
  rfl
theorem wp_zast {x v : Int32} {j : Nat} (hd : decode μ.1 pc = .ok (.bastore, 1)) (ho : okr (hs s) r = true) (hc : (decide (kd r.1 = 12) && isA r.1) = true) (hx : 0 ≤ x ∧ x.toNatClampNeg = j) (hj : j < s.2.2.1 r) (e : pc + 1 = q) (kk : Wp d μ q l st (hs (pI s r j (vp_nar .boolean v))) P) : Wp d μ pc l (vI v :: vI x :: .inr (.inr (some r)) :: st) (hs s) P := by
  simp only [Bool.and_eq_true, decide_eq_true_eq] at hc
  refine wp_sC (pc' := q) (st' := st) (σ1 := hs (pI s r j (vp_nar .boolean v))) hd rfl rfl ?_ kk
  simp only [sC]
  rw [show wrA 11 (vp_nar .byte) 1 pc (vI v :: vI x :: .inr (.inr (some r)) :: st) (hs s) = none from by unfold wrA; rw [if_pos rfl]; dsimp only; rw [if_neg (fun h => absurd (hc.1.symm.trans h.2.1) (by decide))]]
  unfold wrA
  rw [if_pos rfl]
  dsimp only
  rw [if_pos ⟨ho, hc.1, hx.1, by rw [hx.2]; exact hj⟩, e, hx.2]
  show some (q, st, (hput (hp s) r j (vI (vp_nar .boolean v)), s.2.2)) = _
  rw [hput_I (isA_I hc.2 j)]
  rfl
theorem wp_cast {x v : Int32} {j : Nat} (hd : decode μ.1 pc = .ok (.castore, 1)) (ho : okr (hs s) r = true) (hc : (decide (kd r.1 = 13) && isA r.1) = true) (hx : 0 ≤ x ∧ x.toNatClampNeg = j) (hj : j < s.2.2.1 r) (e : pc + 1 = q) (kk : Wp d μ q l st (hs (pI s r j (vp_nar .char v))) P) : Wp d μ pc l (vI v :: vI x :: .inr (.inr (some r)) :: st) (hs s) P := by
  simp only [Bool.and_eq_true, decide_eq_true_eq] at hc
  refine wp_sC (pc' := q) (st' := st) (σ1 := hs (pI s r j (vp_nar .char v))) hd rfl rfl ?_ kk
  simp only [sC]
  unfold wrA
  rw [if_pos rfl]
  dsimp only
  rw [if_pos ⟨ho, hc.1, hx.1, by rw [hx.2]; exact hj⟩, e, hx.2]
  show some (q, st, (hput (hp s) r j (vI (vp_nar .char v)), s.2.2)) = _
  rw [hput_I (isA_I hc.2 j)]
  rfl
theorem wp_aald {x : Int32} {j : Nat} {o : Option Rf} (hd : decode μ.1 pc = .ok (.aaload, 1)) (ho : okr (hs s) r = true) (hc : (decide (14 ≤ kd r.1) && (decide (kd r.1 < 18) && !isI r.1 j)) = true) (hx : 0 ≤ x ∧ x.toNatClampNeg = j) (hj : j < s.2.2.1 r) (hv : s.2.1 r j = o) (h5 : ∀ z, o = some z → 5 ≤ z.1) (e : pc + 1 = q) (kk : Wp d μ q l (.inr (.inr o) :: st) (hs s) P) : Wp d μ pc l (vI x :: .inr (.inr (some r)) :: st) (hs s) P := by
  simp only [Bool.and_eq_true, decide_eq_true_eq, Bool.not_eq_true'] at hc
  refine wp_sB (pc' := q) (st' := .inr (.inr o) :: st) hd rfl ?_ kk
  simp only [sB]
  unfold rdR
  rw [if_pos rfl]
  dsimp only
  rw [if_pos ⟨hc.1, hc.2.1, ho, hx.1, by rw [hx.2]; exact hj⟩, e, hx.2]
  show some (q, .inr (.inr (aR (hp s r j))) :: st) = _
  rw [hp_R hc.2.2, hv]
  cases o with
  | none => rfl
  | some z =>
    show some (q, .inr (.inr (if 5 ≤ z.1 then some z else none)) :: st) = _
    rw [if_pos (h5 z rfl)]
theorem wp_aast {x : Int32} {j : Nat} {o : Option Rf} (hd : decode μ.1 pc = .ok (.aastore, 1)) (ho : okr (hs s) r = true) (hc : (decide (14 ≤ kd r.1) && (decide (kd r.1 < 18) && !isI r.1 j)) = true) (hx : 0 ≤ x ∧ x.toNatClampNeg = j) (hj : j < s.2.2.1 r) (hv : ∀ z ∈ o, okr (hs s) z = true ∧ kd z.1 = ecl (kd r.1)) (e : pc + 1 = q) (kk : Wp d μ q l st (hs (pR s r j o)) P) : Wp d μ pc l (.inr (.inr o) :: vI x :: .inr (.inr (some r)) :: st) (hs s) P := by
  simp only [Bool.and_eq_true, decide_eq_true_eq, Bool.not_eq_true'] at hc
  refine wp_sC (pc' := q) (st' := st) (σ1 := hs (pR s r j o)) hd rfl rfl ?_ kk
  simp only [sC]
  rw [if_pos trivial, if_pos ⟨ho, hc.1, hc.2.1, hx.1, by rw [hx.2]; exact hj, hv⟩, e, hx.2]
  show some (q, st, (hput (hp s) r j (.inr (.inr o)), s.2.2)) = _
  rw [hput_R hc.2.2]
  rfl
theorem wp_alen {n : Nat} (hd : decode μ.1 pc = .ok (.arraylength, 1)) (ho : (okr (hs s) r || okx r) = true) (hc : (decide (10 ≤ kd r.1) && decide (kd r.1 < 18)) = true) (hn : s.2.2.1 r = n) (e : pc + 1 = q) (kk : Wp d μ q l (vI (nI n) :: st) (hs s) P) : Wp d μ pc l (.inr (.inr (some r)) :: st) (hs s) P := by
  simp only [Bool.and_eq_true, decide_eq_true_eq] at hc
  refine wp_sB (pc' := q) (st' := vI (nI n) :: st) hd rfl ?_ kk
  simp only [sB]
  rw [if_pos trivial, if_pos ⟨hc.1, hc.2, ho⟩, e]
  show some (q, vI (Int32.ofNat (s.2.2.1 r)) :: st) = _
  rw [hn]
  rfl
theorem wp_acopy {z : Rf} {n dp sp : Int32} {N D S : Nat} (hd : decode μ.1 pc = .ok (.invokestatic k, 3)) (hf : spc μ.2.1.cls k = some 1) (ho : okr (hs s) r = true) (hz : okr (hs s) z = true) (hc : (decide (kd r.1 = 10) && isA r.1) = true) (hcz : (decide (kd z.1 = 10) && isA z.1) = true) (hn : 0 ≤ n ∧ n.toNatClampNeg = N) (hdp : 0 ≤ dp ∧ dp.toNatClampNeg = D) (hsp : 0 ≤ sp ∧ sp.toNatClampNeg = S) (h1 : S + N ≤ s.2.2.1 z) (h2 : D + N ≤ s.2.2.1 r) (h1d : 1 ≤ d) (h8 : (st.map qcat).sum ≤ 8) (e : pc + 3 = q)
    (kk : Wp d μ q l st (hs (pA s r (va_cpy (s.1 z) (s.1 r) S D N))) P) : Wp d μ pc l (vI n :: vI dp :: .inr (.inr (some r)) :: vI sp :: .inr (.inr (some z)) :: st) (hs s) P := by
  simp only [Bool.and_eq_true, decide_eq_true_eq] at hc hcz
  refine wp_sC (pc' := q) (st' := st) (σ1 := hs (pA s r (va_cpy (s.1 z) (s.1 r) S D N))) hd rfl rfl ?_ kk
  simp only [sC]
  rw [if_pos trivial, hf]
  show (if okr (hs s) r = true ∧ okr (hs s) z = true ∧ kd r.1 = 10 ∧ kd z.1 = 10 ∧ 0 ≤ n ∧ 0 ≤ dp ∧ 0 ≤ sp ∧ sp.toNatClampNeg + n.toNatClampNeg ≤ (hs s).2.1 z ∧ dp.toNatClampNeg + n.toNatClampNeg ≤ (hs s).2.1 r ∧ 1 ≤ d ∧ (st.map qcat).sum ≤ 8 then some (pc + 3, st, (hnew (hs s).1 r (fun k => vI (va_cpy (fun j => aI ((hs s).1 z j)) (fun j => aI ((hs s).1 r j)) sp.toNatClampNeg dp.toNatClampNeg n.toNatClampNeg k)), (hs s).2)) else none) = _
  rw [if_pos ⟨ho, hz, hc.1, hcz.1, hn.1, hdp.1, hsp.1, by rw [hn.2, hsp.2]; exact h1, by rw [hn.2, hdp.2]; exact h2, h1d, h8⟩, e, hn.2, hdp.2, hsp.2]
  show some (q, st, (hnew (hp s) r _, s.2.2)) = _
  have e1 : (fun j => aI (hp s z j)) = s.1 z := by funext j; rw [hp_I (isA_I hcz.2 j)]; rfl
  have e2 : (fun j => aI (hp s r j)) = s.1 r := by funext j; rw [hp_I (isA_I hc.2 j)]; rfl
  rw [show (hs s).1 = hp s from rfl, e1, e2, hnew_A (isA_I hc.2)]
  rfl
end TH
theorem qcat_r {r : Option Rf} : qcat (.inr (.inr r)) = 1 := rfl
section CL
variable {d : Nat} {μ μ' : Mu} {pc q k : Nat} {l : Lv} {st rest : List Av} {σ : St} {P P1 : Option Av → St → Prop} {r : Rf}
theorem spc_rsl : rslT.all (fun e => (spcT.find? (fun z => z.1 == e.1 && decide (z.2.1 = e.2.2.1))).isNone) = true := by decide +kernel
theorem spc_no {c np : Nat} {own : String} {i : Nat} (h : rsl c own i = some (μ', np)) : spc own i = none := by
  unfold rsl at h
  split at h
  · rename_i a1 a2 a3 μ2 np2 nst ps hf
    have h1 := List.mem_of_find?_eq_some hf
    have h2 := List.find?_some hf
    simp only [Bool.and_eq_true, beq_iff_eq, decide_eq_true_eq] at h2
    have h3 := List.all_eq_true.mp spc_rsl _ h1
    unfold spc
    obtain ⟨e1, e2, e3⟩ := h2
    rw [← e1, ← e3]
    rw [Option.isNone_iff_eq_none.mp h3]
  · cases h
theorem sC_stat {c np : Nat} (hf : rsl c μ.2.1.cls k = some (μ', np)) : sC μ d (.invokestatic k) 3 pc st σ = none := by
  simp only [sC]
  rw [if_pos trivial, spc_no hf]
theorem sC_spec {c np : Nat} (hf : rsl c μ.2.1.cls k = some (μ', np)) : sC μ d (.invokespecial k) 3 pc st σ = none := by
  simp only [sC]
  rw [if_pos trivial, spc_no hf]
  split
  · rename_i h; cases h
  · rfl
theorem wp_max {x y : Int32} (hd : decode μ.1 pc = .ok (.invokestatic k, 3)) (hf : spc μ.2.1.cls k = some 2) (h1d : 1 ≤ d) (h8 : (st.map qcat).sum ≤ 8) (e : pc + 3 = q) (kk : Wp d μ q l (vI (if x < y then y else x) :: st) σ P) : Wp d μ pc l (vI y :: vI x :: st) σ P := by
  refine wp_sC (pc' := q) (st' := vI (if x < y then y else x) :: st) (σ1 := σ) hd rfl rfl ?_ kk
  simp only [sC]
  rw [if_pos trivial, hf]
  show (if 1 ≤ d ∧ (st.map qcat).sum ≤ 8 then some (pc + 3, vI (if x < y then y else x) :: st, σ) else none) = _
  rw [if_pos ⟨h1d, h8⟩, e]
theorem wp_min {x y : Int32} (hd : decode μ.1 pc = .ok (.invokestatic k, 3)) (hf : spc μ.2.1.cls k = some 3) (h1d : 1 ≤ d) (h8 : (st.map qcat).sum ≤ 8) (e : pc + 3 = q) (kk : Wp d μ q l (vI (if y < x then y else x) :: st) σ P) : Wp d μ pc l (vI y :: vI x :: st) σ P := by
  refine wp_sC (pc' := q) (st' := vI (if y < x then y else x) :: st) (σ1 := σ) hd rfl rfl ?_ kk
  simp only [sC]
  rw [if_pos trivial, hf]
  show (if 1 ≤ d ∧ (st.map qcat).sum ≤ 8 then some (pc + 3, vI (if y < x then y else x) :: st, σ) else none) = _
  rw [if_pos ⟨h1d, h8⟩, e]
theorem wp_abs {x : Int32} (hd : decode μ.1 pc = .ok (.invokestatic k, 3)) (hf : spc μ.2.1.cls k = some 4) (h1d : 1 ≤ d) (h8 : (st.map qcat).sum ≤ 8) (e : pc + 3 = q) (kk : Wp d μ q l (vI (if 0 ≤ x then x else 0 - x) :: st) σ P) : Wp d μ pc l (vI x :: st) σ P := by
  refine wp_sC (pc' := q) (st' := vI (if 0 ≤ x then x else 0 - x) :: st) (σ1 := σ) hd rfl rfl ?_ kk
  simp only [sC]
  rw [if_pos trivial, hf]
  show (if 1 ≤ d ∧ (st.map qcat).sum ≤ 8 then some (pc + 3, vI (if 0 ≤ x then x else 0 - x) :: st, σ) else none) = _
  rw [if_pos ⟨h1d, h8⟩, e]
theorem rcv_of (ho : okr σ r = true) {C : String} (hq : (vwCl[kd r.1]?).map (fun z => z.1) = some C) : rcv σ r C = true := by
  unfold rcv
  cases h : vwCl[kd r.1]? with
  | none => rw [h] at hq; cases hq
  | some z =>
    rw [h] at hq
    simp only [ho, Bool.true_and, decide_eq_true_eq]
    exact Option.some.inj hq
theorem wp_objInit (hd : decode μ.1 pc = .ok (.invokespecial k, 3)) (hf : spc μ.2.1.cls k = some 0) (h5 : 5 ≤ r.1) (h1d : 1 ≤ d) (h8 : (st.map qcat).sum ≤ 8) (e : pc + 3 = q) (kk : Wp d μ q l st σ P) : Wp d μ pc l (.inr (.inr (some r)) :: st) σ P := by
  refine wp_sC (pc' := q) (st' := st) (σ1 := σ) hd rfl rfl ?_ kk
  simp only [sC]
  rw [if_pos trivial, hf]
  show (if 5 ≤ r.1 ∧ 1 ≤ d ∧ (st.map qcat).sum ≤ 8 then some (pc + 3, st, σ) else none) = _
  rw [if_pos ⟨h5, h1d, h8⟩, e]
theorem wp_callS0 (hd : decode μ.1 pc = .ok (.invokestatic k, 3)) (hr : rsl 0 μ.2.1.cls k = some (μ', 0)) (hl : 0 ≤ μ'.2.2.1)  (h8 : (rest.map qcat).sum ≤ 8) (e : pc + 3 = q) (hc : Ca d μ' [] σ P1) (kk : ∀ v σ1, P1 v σ1 → Wp (d + 1) μ q l (v.toList ++ rest) σ1 P) : Wp (d + 1) μ pc l (rest) σ P := by
  refine wp_sD (as := []) (rest := rest) (μ' := μ') hd rfl rfl (sC_stat hr) rfl ?_ hl (by simp) hc e kk
  unfold sD
  rw [if_pos rfl]
  dsimp only
  rw [hr]
  dsimp only
  rw [if_pos ⟨by simp, h8⟩]
  rfl
theorem wp_callV0 (hd : decode μ.1 pc = .ok (.invokevirtual k, 3)) (hr : rsl 1 μ.2.1.cls k = some (μ', 0)) (ho : rcv σ r μ'.2.1.cls = true) (hl : 1 ≤ μ'.2.2.1)  (h8 : (rest.map qcat).sum ≤ 8) (e : pc + 3 = q) (hc : Ca d μ' (.inr (.inr (some r)) :: []) σ P1) (kk : ∀ v σ1, P1 v σ1 → Wp (d + 1) μ q l (v.toList ++ rest) σ1 P) : Wp (d + 1) μ pc l (.inr (.inr (some r)) :: rest) σ P := by
  refine wp_sD (as := .inr (.inr (some r)) :: []) (rest := rest) (μ' := μ') hd rfl rfl rfl rfl ?_ hl (by simp [qcat_r]) hc e kk
  unfold sD
  rw [if_pos rfl]
  dsimp only
  rw [hr]
  show (match (.inr (.inr (some r)) :: rest).drop 0 with
      | .inr (.inr (some r)) :: rest => _
      | _ => none) = _
  simp only [List.drop_succ_cons, List.drop_zero]
  rw [if_pos ⟨by simp, h8, ho⟩]
  rfl
theorem wp_callI0 (hd : decode μ.1 pc = .ok (.invokespecial k, 3)) (hr : rsl 2 μ.2.1.cls k = some (μ', 0)) (h5 : 5 ≤ r.1) (hl : 1 ≤ μ'.2.2.1)  (h8 : (rest.map qcat).sum ≤ 8) (e : pc + 3 = q) (hc : Ca d μ' (.inr (.inr (some r)) :: []) σ P1) (kk : ∀ v σ1, P1 v σ1 → Wp (d + 1) μ q l (v.toList ++ rest) σ1 P) : Wp (d + 1) μ pc l (.inr (.inr (some r)) :: rest) σ P := by
  refine wp_sD (as := .inr (.inr (some r)) :: []) (rest := rest) (μ' := μ') hd rfl rfl (sC_spec hr) rfl ?_ hl (by simp [qcat_r]) hc e kk
  unfold sD
  rw [if_pos rfl]
  dsimp only
  rw [hr]
  show (match (.inr (.inr (some r)) :: rest).drop 0 with
      | .inr (.inr (some r)) :: rest => _
      | _ => none) = _
  simp only [List.drop_succ_cons, List.drop_zero]
  rw [if_pos ⟨by simp, h8, h5⟩]
  rfl
theorem wp_callS1 {a1 : Av} (hd : decode μ.1 pc = .ok (.invokestatic k, 3)) (hr : rsl 0 μ.2.1.cls k = some (μ', 1)) (hl : 1 ≤ μ'.2.2.1) (hq1 : qcat a1 = 1) (h8 : (rest.map qcat).sum ≤ 8) (e : pc + 3 = q) (hc : Ca d μ' [a1] σ P1) (kk : ∀ v σ1, P1 v σ1 → Wp (d + 1) μ q l (v.toList ++ rest) σ1 P) : Wp (d + 1) μ pc l (a1 :: rest) σ P := by
  refine wp_sD (as := [a1]) (rest := rest) (μ' := μ') hd rfl rfl (sC_stat hr) rfl ?_ hl (by simp [hq1]) hc e kk
  unfold sD
  rw [if_pos rfl]
  dsimp only
  rw [hr]
  dsimp only
  rw [if_pos ⟨by simp, h8⟩]
  rfl
theorem wp_callV1 {a1 : Av} (hd : decode μ.1 pc = .ok (.invokevirtual k, 3)) (hr : rsl 1 μ.2.1.cls k = some (μ', 1)) (ho : rcv σ r μ'.2.1.cls = true) (hl : 2 ≤ μ'.2.2.1) (hq1 : qcat a1 = 1) (h8 : (rest.map qcat).sum ≤ 8) (e : pc + 3 = q) (hc : Ca d μ' (.inr (.inr (some r)) :: [a1]) σ P1) (kk : ∀ v σ1, P1 v σ1 → Wp (d + 1) μ q l (v.toList ++ rest) σ1 P) : Wp (d + 1) μ pc l (a1 :: .inr (.inr (some r)) :: rest) σ P := by
  refine wp_sD (as := .inr (.inr (some r)) :: [a1]) (rest := rest) (μ' := μ') hd rfl rfl rfl rfl ?_ hl (by simp [qcat_r, hq1]) hc e kk
  unfold sD
  rw [if_pos rfl]
  dsimp only
  rw [hr]
  show (match (a1 :: .inr (.inr (some r)) :: rest).drop 1 with
      | .inr (.inr (some r)) :: rest => _
      | _ => none) = _
  simp only [List.drop_succ_cons, List.drop_zero]
  rw [if_pos ⟨by simp, h8, ho⟩]
  rfl
theorem wp_callI1 {a1 : Av} (hd : decode μ.1 pc = .ok (.invokespecial k, 3)) (hr : rsl 2 μ.2.1.cls k = some (μ', 1)) (h5 : 5 ≤ r.1) (hl : 2 ≤ μ'.2.2.1) (hq1 : qcat a1 = 1) (h8 : (rest.map qcat).sum ≤ 8) (e : pc + 3 = q) (hc : Ca d μ' (.inr (.inr (some r)) :: [a1]) σ P1) (kk : ∀ v σ1, P1 v σ1 → Wp (d + 1) μ q l (v.toList ++ rest) σ1 P) : Wp (d + 1) μ pc l (a1 :: .inr (.inr (some r)) :: rest) σ P := by
  refine wp_sD (as := .inr (.inr (some r)) :: [a1]) (rest := rest) (μ' := μ') hd rfl rfl (sC_spec hr) rfl ?_ hl (by simp [qcat_r, hq1]) hc e kk
  unfold sD
  rw [if_pos rfl]
  dsimp only
  rw [hr]
  show (match (a1 :: .inr (.inr (some r)) :: rest).drop 1 with
      | .inr (.inr (some r)) :: rest => _
      | _ => none) = _
  simp only [List.drop_succ_cons, List.drop_zero]
  rw [if_pos ⟨by simp, h8, h5⟩]
  rfl
theorem wp_callS2 {a1 a2 : Av} (hd : decode μ.1 pc = .ok (.invokestatic k, 3)) (hr : rsl 0 μ.2.1.cls k = some (μ', 2)) (hl : 2 ≤ μ'.2.2.1) (hq1 : qcat a1 = 1) (hq2 : qcat a2 = 1) (h8 : (rest.map qcat).sum ≤ 8) (e : pc + 3 = q) (hc : Ca d μ' [a1, a2] σ P1) (kk : ∀ v σ1, P1 v σ1 → Wp (d + 1) μ q l (v.toList ++ rest) σ1 P) : Wp (d + 1) μ pc l (a2 :: a1 :: rest) σ P := by
  refine wp_sD (as := [a1, a2]) (rest := rest) (μ' := μ') hd rfl rfl (sC_stat hr) rfl ?_ hl (by simp [hq1, hq2]) hc e kk
  unfold sD
  rw [if_pos rfl]
  dsimp only
  rw [hr]
  dsimp only
  rw [if_pos ⟨by simp, h8⟩]
  rfl
theorem wp_callV2 {a1 a2 : Av} (hd : decode μ.1 pc = .ok (.invokevirtual k, 3)) (hr : rsl 1 μ.2.1.cls k = some (μ', 2)) (ho : rcv σ r μ'.2.1.cls = true) (hl : 3 ≤ μ'.2.2.1) (hq1 : qcat a1 = 1) (hq2 : qcat a2 = 1) (h8 : (rest.map qcat).sum ≤ 8) (e : pc + 3 = q) (hc : Ca d μ' (.inr (.inr (some r)) :: [a1, a2]) σ P1) (kk : ∀ v σ1, P1 v σ1 → Wp (d + 1) μ q l (v.toList ++ rest) σ1 P) : Wp (d + 1) μ pc l (a2 :: a1 :: .inr (.inr (some r)) :: rest) σ P := by
  refine wp_sD (as := .inr (.inr (some r)) :: [a1, a2]) (rest := rest) (μ' := μ') hd rfl rfl rfl rfl ?_ hl (by simp [qcat_r, hq1, hq2]) hc e kk
  unfold sD
  rw [if_pos rfl]
  dsimp only
  rw [hr]
  show (match (a2 :: a1 :: .inr (.inr (some r)) :: rest).drop 2 with
      | .inr (.inr (some r)) :: rest => _
      | _ => none) = _
  simp only [List.drop_succ_cons, List.drop_zero]
  rw [if_pos ⟨by simp, h8, ho⟩]
  rfl
theorem wp_callI2 {a1 a2 : Av} (hd : decode μ.1 pc = .ok (.invokespecial k, 3)) (hr : rsl 2 μ.2.1.cls k = some (μ', 2)) (h5 : 5 ≤ r.1) (hl : 3 ≤ μ'.2.2.1) (hq1 : qcat a1 = 1) (hq2 : qcat a2 = 1) (h8 : (rest.map qcat).sum ≤ 8) (e : pc + 3 = q) (hc : Ca d μ' (.inr (.inr (some r)) :: [a1, a2]) σ P1) (kk : ∀ v σ1, P1 v σ1 → Wp (d + 1) μ q l (v.toList ++ rest) σ1 P) : Wp (d + 1) μ pc l (a2 :: a1 :: .inr (.inr (some r)) :: rest) σ P := by
  refine wp_sD (as := .inr (.inr (some r)) :: [a1, a2]) (rest := rest) (μ' := μ') hd rfl rfl (sC_spec hr) rfl ?_ hl (by simp [qcat_r, hq1, hq2]) hc e kk
  unfold sD
  rw [if_pos rfl]
  dsimp only
  rw [hr]
  show (match (a2 :: a1 :: .inr (.inr (some r)) :: rest).drop 2 with
      | .inr (.inr (some r)) :: rest => _
      | _ => none) = _
  simp only [List.drop_succ_cons, List.drop_zero]
  rw [if_pos ⟨by simp, h8, h5⟩]
  rfl
theorem wp_callS3 {a1 a2 a3 : Av} (hd : decode μ.1 pc = .ok (.invokestatic k, 3)) (hr : rsl 0 μ.2.1.cls k = some (μ', 3)) (hl : 3 ≤ μ'.2.2.1) (hq1 : qcat a1 = 1) (hq2 : qcat a2 = 1) (hq3 : qcat a3 = 1) (h8 : (rest.map qcat).sum ≤ 8) (e : pc + 3 = q) (hc : Ca d μ' [a1, a2, a3] σ P1) (kk : ∀ v σ1, P1 v σ1 → Wp (d + 1) μ q l (v.toList ++ rest) σ1 P) : Wp (d + 1) μ pc l (a3 :: a2 :: a1 :: rest) σ P := by
  refine wp_sD (as := [a1, a2, a3]) (rest := rest) (μ' := μ') hd rfl rfl (sC_stat hr) rfl ?_ hl (by simp [hq1, hq2, hq3]) hc e kk
  unfold sD
  rw [if_pos rfl]
  dsimp only
  rw [hr]
  dsimp only
  rw [if_pos ⟨by simp, h8⟩]
  rfl
theorem wp_callV3 {a1 a2 a3 : Av} (hd : decode μ.1 pc = .ok (.invokevirtual k, 3)) (hr : rsl 1 μ.2.1.cls k = some (μ', 3)) (ho : rcv σ r μ'.2.1.cls = true) (hl : 4 ≤ μ'.2.2.1) (hq1 : qcat a1 = 1) (hq2 : qcat a2 = 1) (hq3 : qcat a3 = 1) (h8 : (rest.map qcat).sum ≤ 8) (e : pc + 3 = q) (hc : Ca d μ' (.inr (.inr (some r)) :: [a1, a2, a3]) σ P1) (kk : ∀ v σ1, P1 v σ1 → Wp (d + 1) μ q l (v.toList ++ rest) σ1 P) : Wp (d + 1) μ pc l (a3 :: a2 :: a1 :: .inr (.inr (some r)) :: rest) σ P := by
  refine wp_sD (as := .inr (.inr (some r)) :: [a1, a2, a3]) (rest := rest) (μ' := μ') hd rfl rfl rfl rfl ?_ hl (by simp [qcat_r, hq1, hq2, hq3]) hc e kk
  unfold sD
  rw [if_pos rfl]
  dsimp only
  rw [hr]
  show (match (a3 :: a2 :: a1 :: .inr (.inr (some r)) :: rest).drop 3 with
      | .inr (.inr (some r)) :: rest => _
      | _ => none) = _
  simp only [List.drop_succ_cons, List.drop_zero]
  rw [if_pos ⟨by simp, h8, ho⟩]
  rfl
theorem wp_callI3 {a1 a2 a3 : Av} (hd : decode μ.1 pc = .ok (.invokespecial k, 3)) (hr : rsl 2 μ.2.1.cls k = some (μ', 3)) (h5 : 5 ≤ r.1) (hl : 4 ≤ μ'.2.2.1) (hq1 : qcat a1 = 1) (hq2 : qcat a2 = 1) (hq3 : qcat a3 = 1) (h8 : (rest.map qcat).sum ≤ 8) (e : pc + 3 = q) (hc : Ca d μ' (.inr (.inr (some r)) :: [a1, a2, a3]) σ P1) (kk : ∀ v σ1, P1 v σ1 → Wp (d + 1) μ q l (v.toList ++ rest) σ1 P) : Wp (d + 1) μ pc l (a3 :: a2 :: a1 :: .inr (.inr (some r)) :: rest) σ P := by
  refine wp_sD (as := .inr (.inr (some r)) :: [a1, a2, a3]) (rest := rest) (μ' := μ') hd rfl rfl (sC_spec hr) rfl ?_ hl (by simp [qcat_r, hq1, hq2, hq3]) hc e kk
  unfold sD
  rw [if_pos rfl]
  dsimp only
  rw [hr]
  show (match (a3 :: a2 :: a1 :: .inr (.inr (some r)) :: rest).drop 3 with
      | .inr (.inr (some r)) :: rest => _
      | _ => none) = _
  simp only [List.drop_succ_cons, List.drop_zero]
  rw [if_pos ⟨by simp, h8, h5⟩]
  rfl
theorem wp_callS4 {a1 a2 a3 a4 : Av} (hd : decode μ.1 pc = .ok (.invokestatic k, 3)) (hr : rsl 0 μ.2.1.cls k = some (μ', 4)) (hl : 4 ≤ μ'.2.2.1) (hq1 : qcat a1 = 1) (hq2 : qcat a2 = 1) (hq3 : qcat a3 = 1) (hq4 : qcat a4 = 1) (h8 : (rest.map qcat).sum ≤ 8) (e : pc + 3 = q) (hc : Ca d μ' [a1, a2, a3, a4] σ P1) (kk : ∀ v σ1, P1 v σ1 → Wp (d + 1) μ q l (v.toList ++ rest) σ1 P) : Wp (d + 1) μ pc l (a4 :: a3 :: a2 :: a1 :: rest) σ P := by
  refine wp_sD (as := [a1, a2, a3, a4]) (rest := rest) (μ' := μ') hd rfl rfl (sC_stat hr) rfl ?_ hl (by simp [hq1, hq2, hq3, hq4]) hc e kk
  unfold sD
  rw [if_pos rfl]
  dsimp only
  rw [hr]
  dsimp only
  rw [if_pos ⟨by simp, h8⟩]
  rfl
theorem wp_callV4 {a1 a2 a3 a4 : Av} (hd : decode μ.1 pc = .ok (.invokevirtual k, 3)) (hr : rsl 1 μ.2.1.cls k = some (μ', 4)) (ho : rcv σ r μ'.2.1.cls = true) (hl : 5 ≤ μ'.2.2.1) (hq1 : qcat a1 = 1) (hq2 : qcat a2 = 1) (hq3 : qcat a3 = 1) (hq4 : qcat a4 = 1) (h8 : (rest.map qcat).sum ≤ 8) (e : pc + 3 = q) (hc : Ca d μ' (.inr (.inr (some r)) :: [a1, a2, a3, a4]) σ P1) (kk : ∀ v σ1, P1 v σ1 → Wp (d + 1) μ q l (v.toList ++ rest) σ1 P) : Wp (d + 1) μ pc l (a4 :: a3 :: a2 :: a1 :: .inr (.inr (some r)) :: rest) σ P := by
  refine wp_sD (as := .inr (.inr (some r)) :: [a1, a2, a3, a4]) (rest := rest) (μ' := μ') hd rfl rfl rfl rfl ?_ hl (by simp [qcat_r, hq1, hq2, hq3, hq4]) hc e kk
  unfold sD
  rw [if_pos rfl]
  dsimp only
  rw [hr]
  show (match (a4 :: a3 :: a2 :: a1 :: .inr (.inr (some r)) :: rest).drop 4 with
      | .inr (.inr (some r)) :: rest => _
      | _ => none) = _
  simp only [List.drop_succ_cons, List.drop_zero]
  rw [if_pos ⟨by simp, h8, ho⟩]
  rfl
theorem wp_callI4 {a1 a2 a3 a4 : Av} (hd : decode μ.1 pc = .ok (.invokespecial k, 3)) (hr : rsl 2 μ.2.1.cls k = some (μ', 4)) (h5 : 5 ≤ r.1) (hl : 5 ≤ μ'.2.2.1) (hq1 : qcat a1 = 1) (hq2 : qcat a2 = 1) (hq3 : qcat a3 = 1) (hq4 : qcat a4 = 1) (h8 : (rest.map qcat).sum ≤ 8) (e : pc + 3 = q) (hc : Ca d μ' (.inr (.inr (some r)) :: [a1, a2, a3, a4]) σ P1) (kk : ∀ v σ1, P1 v σ1 → Wp (d + 1) μ q l (v.toList ++ rest) σ1 P) : Wp (d + 1) μ pc l (a4 :: a3 :: a2 :: a1 :: .inr (.inr (some r)) :: rest) σ P := by
  refine wp_sD (as := .inr (.inr (some r)) :: [a1, a2, a3, a4]) (rest := rest) (μ' := μ') hd rfl rfl (sC_spec hr) rfl ?_ hl (by simp [qcat_r, hq1, hq2, hq3, hq4]) hc e kk
  unfold sD
  rw [if_pos rfl]
  dsimp only
  rw [hr]
  show (match (a4 :: a3 :: a2 :: a1 :: .inr (.inr (some r)) :: rest).drop 4 with
      | .inr (.inr (some r)) :: rest => _
      | _ => none) = _
  simp only [List.drop_succ_cons, List.drop_zero]
  rw [if_pos ⟨by simp, h8, h5⟩]
  rfl
theorem wp_callS5 {a1 a2 a3 a4 a5 : Av} (hd : decode μ.1 pc = .ok (.invokestatic k, 3)) (hr : rsl 0 μ.2.1.cls k = some (μ', 5)) (hl : 5 ≤ μ'.2.2.1) (hq1 : qcat a1 = 1) (hq2 : qcat a2 = 1) (hq3 : qcat a3 = 1) (hq4 : qcat a4 = 1) (hq5 : qcat a5 = 1) (h8 : (rest.map qcat).sum ≤ 8) (e : pc + 3 = q) (hc : Ca d μ' [a1, a2, a3, a4, a5] σ P1) (kk : ∀ v σ1, P1 v σ1 → Wp (d + 1) μ q l (v.toList ++ rest) σ1 P) : Wp (d + 1) μ pc l (a5 :: a4 :: a3 :: a2 :: a1 :: rest) σ P := by
  refine wp_sD (as := [a1, a2, a3, a4, a5]) (rest := rest) (μ' := μ') hd rfl rfl (sC_stat hr) rfl ?_ hl (by simp [hq1, hq2, hq3, hq4, hq5]) hc e kk
  unfold sD
  rw [if_pos rfl]
  dsimp only
  rw [hr]
  dsimp only
  rw [if_pos ⟨by simp, h8⟩]
  rfl
theorem wp_callV5 {a1 a2 a3 a4 a5 : Av} (hd : decode μ.1 pc = .ok (.invokevirtual k, 3)) (hr : rsl 1 μ.2.1.cls k = some (μ', 5)) (ho : rcv σ r μ'.2.1.cls = true) (hl : 6 ≤ μ'.2.2.1) (hq1 : qcat a1 = 1) (hq2 : qcat a2 = 1) (hq3 : qcat a3 = 1) (hq4 : qcat a4 = 1) (hq5 : qcat a5 = 1) (h8 : (rest.map qcat).sum ≤ 8) (e : pc + 3 = q) (hc : Ca d μ' (.inr (.inr (some r)) :: [a1, a2, a3, a4, a5]) σ P1) (kk : ∀ v σ1, P1 v σ1 → Wp (d + 1) μ q l (v.toList ++ rest) σ1 P) : Wp (d + 1) μ pc l (a5 :: a4 :: a3 :: a2 :: a1 :: .inr (.inr (some r)) :: rest) σ P := by
  refine wp_sD (as := .inr (.inr (some r)) :: [a1, a2, a3, a4, a5]) (rest := rest) (μ' := μ') hd rfl rfl rfl rfl ?_ hl (by simp [qcat_r, hq1, hq2, hq3, hq4, hq5]) hc e kk
  unfold sD
  rw [if_pos rfl]
  dsimp only
  rw [hr]
  show (match (a5 :: a4 :: a3 :: a2 :: a1 :: .inr (.inr (some r)) :: rest).drop 5 with
      | .inr (.inr (some r)) :: rest => _
      | _ => none) = _
  simp only [List.drop_succ_cons, List.drop_zero]
  rw [if_pos ⟨by simp, h8, ho⟩]
  rfl
theorem wp_callI5 {a1 a2 a3 a4 a5 : Av} (hd : decode μ.1 pc = .ok (.invokespecial k, 3)) (hr : rsl 2 μ.2.1.cls k = some (μ', 5)) (h5 : 5 ≤ r.1) (hl : 6 ≤ μ'.2.2.1) (hq1 : qcat a1 = 1) (hq2 : qcat a2 = 1) (hq3 : qcat a3 = 1) (hq4 : qcat a4 = 1) (hq5 : qcat a5 = 1) (h8 : (rest.map qcat).sum ≤ 8) (e : pc + 3 = q) (hc : Ca d μ' (.inr (.inr (some r)) :: [a1, a2, a3, a4, a5]) σ P1) (kk : ∀ v σ1, P1 v σ1 → Wp (d + 1) μ q l (v.toList ++ rest) σ1 P) : Wp (d + 1) μ pc l (a5 :: a4 :: a3 :: a2 :: a1 :: .inr (.inr (some r)) :: rest) σ P := by
  refine wp_sD (as := .inr (.inr (some r)) :: [a1, a2, a3, a4, a5]) (rest := rest) (μ' := μ') hd rfl rfl (sC_spec hr) rfl ?_ hl (by simp [qcat_r, hq1, hq2, hq3, hq4, hq5]) hc e kk
  unfold sD
  rw [if_pos rfl]
  dsimp only
  rw [hr]
  show (match (a5 :: a4 :: a3 :: a2 :: a1 :: .inr (.inr (some r)) :: rest).drop 5 with
      | .inr (.inr (some r)) :: rest => _
      | _ => none) = _
  simp only [List.drop_succ_cons, List.drop_zero]
  rw [if_pos ⟨by simp, h8, h5⟩]
  rfl
end CL
