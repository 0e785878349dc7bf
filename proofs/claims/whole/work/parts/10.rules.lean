/-! THE PURE PART, 1: what the interpreter comes to, rule by rule -/
def Wp (d : Nat) (μ : Mu) (pc : Nat) (l : Lv) (st : List Av) (σ : St) (P : Option Av → St → Prop) : Prop := ∃ n v σ', xc n d μ pc l st σ = some (v, σ') ∧ P v σ'
/-- a whole call -/
def Ca (d : Nat) (μ : Mu) (as : List Av) (σ : St) (P : Option Av → St → Prop) : Prop := Wp d μ 0 (qent as μ.2.2.1) [] σ P
theorem xc_mono : ∀ (n d : Nat) (μ : Mu) (pc : Nat) (l : Lv) (st : List Av) (σ : St) (r : Option Av × St), xc n d μ pc l st σ = some r → xc (n + 1) d μ pc l st σ = some r := by
  intro n
  induction n with
  | zero => intro d μ pc l st σ r h; cases h
  | succ n ih =>
    intro d μ pc l st σ r h
    rw [xc] at h
    rw [xc]
    cases hd : decode μ.1 pc with
    | error e => simp only [hd] at h; cases h
    | ok il =>
      obtain ⟨i, len⟩ := il
      simp only [hd] at h ⊢
      cases hA : sA i len pc l st with
      | some z => simp only [hA] at h ⊢; exact ih _ _ _ _ _ _ _ h
      | none =>
        simp only [hA] at h ⊢
        cases hB : sB μ.2.1.cls i len pc st σ with
        | some z => simp only [hB] at h ⊢; exact ih _ _ _ _ _ _ _ h
        | none =>
          simp only [hB] at h ⊢
          cases hC : sC μ d i len pc st σ with
          | some z => simp only [hC] at h ⊢; exact ih _ _ _ _ _ _ _ h
          | none =>
            simp only [hC] at h ⊢
            cases hE : sE μ.2.2.2 i len st with
            | some v => simp only [hE] at h ⊢; exact h
            | none =>
              simp only [hE] at h ⊢
              cases d with
              | zero => cases h
              | succ d' =>
                dsimp only at h ⊢
                cases hD : sD μ.2.1.cls i len st σ with
                | none => simp only [hD] at h; cases h
                | some z =>
                  obtain ⟨μ', as, rest⟩ := z
                  simp only [hD] at h ⊢
                  by_cases hc : as.length ≤ μ'.2.2.1 ∧ (∀ a ∈ as, qcat a = 1)
                  · rw [if_pos hc] at h ⊢
                    cases hx : xc n d' μ' 0 (qent as μ'.2.2.1) [] σ with
                    | none => simp only [hx] at h; cases h
                    | some w =>
                      rw [ih _ _ _ _ _ _ _ hx]
                      simp only [hx] at h
                      exact ih _ _ _ _ _ _ _ h
                  · rw [if_neg hc] at h; cases h
theorem xc_more {n m d : Nat} {μ : Mu} {pc : Nat} {l : Lv} {st : List Av} {σ : St} {r : Option Av × St} (h : xc n d μ pc l st σ = some r) : xc (n + m) d μ pc l st σ = some r := by
  induction m with
  | zero => exact h
  | succ m ih => exact xc_mono _ _ _ _ _ _ _ _ ih
section RU
variable {d : Nat} {μ : Mu} {pc q t : Nat} {l : Lv} {st : List Av} {σ : St} {P : Option Av → St → Prop}
theorem Wp.conseq {P' : Option Av → St → Prop} (h : Wp d μ pc l st σ P) (hP : ∀ v σ', P v σ' → P' v σ') : Wp d μ pc l st σ P' := by
  obtain ⟨n, v, σ', h, h2⟩ := h
  exact ⟨n, v, σ', h, hP v σ' h2⟩
theorem wp_sA {i : Instr} {len pc' : Nat} {l' : Lv} {st' : List Av} (hd : decode μ.1 pc = .ok (i, len)) (hs : sA i len pc l st = some (pc', l', st')) (k : Wp d μ pc' l' st' σ P) : Wp d μ pc l st σ P := by
  obtain ⟨n, v, σ', h, hP⟩ := k
  exact ⟨n + 1, v, σ', by rw [xc]; simp only [hd, hs]; exact h, hP⟩
theorem wp_sB {i : Instr} {len pc' : Nat} {st' : List Av} (hd : decode μ.1 pc = .ok (i, len)) (hA : sA i len pc l st = none) (hs : sB μ.2.1.cls i len pc st σ = some (pc', st')) (k : Wp d μ pc' l st' σ P) : Wp d μ pc l st σ P := by
  obtain ⟨n, v, σ', h, hP⟩ := k
  exact ⟨n + 1, v, σ', by rw [xc]; simp only [hd, hA, hs]; exact h, hP⟩
theorem wp_sC {i : Instr} {len pc' : Nat} {st' : List Av} {σ1 : St} (hd : decode μ.1 pc = .ok (i, len)) (hA : sA i len pc l st = none) (hB : sB μ.2.1.cls i len pc st σ = none) (hs : sC μ d i len pc st σ = some (pc', st', σ1)) (k : Wp d μ pc' l st' σ1 P) : Wp d μ pc l st σ P := by
  obtain ⟨n, v, σ', h, hP⟩ := k
  exact ⟨n + 1, v, σ', by rw [xc]; simp only [hd, hA, hB, hs]; exact h, hP⟩
theorem wp_sE {i : Instr} {len : Nat} {v : Option Av} (hd : decode μ.1 pc = .ok (i, len)) (hA : sA i len pc l st = none) (hB : sB μ.2.1.cls i len pc st σ = none) (hC : sC μ d i len pc st σ = none) (hs : sE μ.2.2.2 i len st = some v) (k : P v σ) : Wp d μ pc l st σ P :=
  ⟨1, v, σ, by rw [xc]; simp only [hd, hA, hB, hC, hs], k⟩
theorem wp_sD {i : Instr} {len : Nat} {μ' : Mu} {as rest : List Av} {P1 : Option Av → St → Prop} (hd : decode μ.1 pc = .ok (i, len)) (hA : sA i len pc l st = none) (hB : sB μ.2.1.cls i len pc st σ = none) (hC : sC μ (d + 1) i len pc st σ = none) (hE : sE μ.2.2.2 i len st = none) (hs : sD μ.2.1.cls i len st σ = some (μ', as, rest)) (hl : as.length ≤ μ'.2.2.1) (hq : ∀ a ∈ as, qcat a = 1)
    (hc : Ca d μ' as σ P1) (e : pc + 3 = q) (k : ∀ v σ1, P1 v σ1 → Wp (d + 1) μ q l (v.toList ++ rest) σ1 P) : Wp (d + 1) μ pc l st σ P := by
  subst e
  obtain ⟨n1, v1, σ1, h1, hP1⟩ := hc
  obtain ⟨n2, v, σ', h2, hP⟩ := k v1 σ1 hP1
  refine ⟨n1 + n2 + 1, v, σ', ?_, hP⟩
  rw [xc]
  simp only [hd, hA, hB, hC, hE, hs]
  rw [if_pos ⟨hl, hq⟩, xc_more h1]
  dsimp only
  rw [Nat.add_comm n1 n2]
  exact xc_more h2
/-! stack, locals, numbers -/
theorem wp_null (hd : decode μ.1 pc = .ok (.aconst_null, 1)) (e : pc + 1 = q) (k : Wp d μ q l (vN :: st) σ P) : Wp d μ pc l st σ P := wp_sA hd rfl (by rw [e]; exact k)
theorem wp_iconst {z : Int} {v : Int32} (hd : decode μ.1 pc = .ok (.iconst z, 1)) (hv : Int32.ofInt z = v) (e : pc + 1 = q) (k : Wp d μ q l (vI v :: st) σ P) : Wp d μ pc l st σ P := wp_sA hd rfl (by rw [e, hv]; exact k)
theorem wp_bipush {z : Int} {v : Int32} (hd : decode μ.1 pc = .ok (.bipush z, 2)) (hv : (Int8.ofInt z).toInt32 = v) (e : pc + 2 = q) (k : Wp d μ q l (vI v :: st) σ P) : Wp d μ pc l st σ P := wp_sA hd rfl (by rw [e, hv]; exact k)
theorem wp_sipush {z : Int} {v : Int32} (hd : decode μ.1 pc = .ok (.sipush z, 3)) (hv : (Int16.ofInt z).toInt32 = v) (e : pc + 3 = q) (k : Wp d μ q l (vI v :: st) σ P) : Wp d μ pc l st σ P := wp_sA hd rfl (by rw [e, hv]; exact k)
theorem wp_lconst {z : Fin 2} (hd : decode μ.1 pc = .ok (.lconst z, 1)) (e : pc + 1 = q) (k : Wp d μ q l (vL (Int64.ofNat (z : Nat)) :: st) σ P) : Wp d μ pc l st σ P := wp_sA hd rfl (by rw [e]; exact k)
theorem wp_iload_n {i : Fin 4} {x : Int32} (hd : decode μ.1 pc = .ok (.iload_n i, 1)) (hl : ldv l i = some (vI x)) (e : pc + 1 = q) (k : Wp d μ q l (vI x :: st) σ P) : Wp d μ pc l st σ P :=
  wp_sA (pc' := q) (l' := l) (st' := vI x :: st) hd (by show (if 1 = 1 then liI l i (pc + 1) st else none) = _; rw [if_pos rfl, liI, hl, e]) k
theorem wp_iload {i : Nat} {x : Int32} (hd : decode μ.1 pc = .ok (.iload i, 2)) (hl : ldv l i = some (vI x)) (e : pc + 2 = q) (k : Wp d μ q l (vI x :: st) σ P) : Wp d μ pc l st σ P :=
  wp_sA (pc' := q) (l' := l) (st' := vI x :: st) hd (by show (if 2 = 2 then liI l i (pc + 2) st else none) = _; rw [if_pos rfl, liI, hl, e]) k
theorem wp_aload_n {i : Fin 4} {r : Option Rf} (hd : decode μ.1 pc = .ok (.aload_n i, 1)) (hl : ldv l i = some (.inr (.inr r))) (e : pc + 1 = q) (k : Wp d μ q l (.inr (.inr r) :: st) σ P) : Wp d μ pc l st σ P :=
  wp_sA (pc' := q) (l' := l) (st' := .inr (.inr r) :: st) hd (by show (if 1 = 1 then liA l i (pc + 1) st else none) = _; rw [if_pos rfl, liA, hl, e]) k
theorem wp_aload {i : Nat} {r : Option Rf} (hd : decode μ.1 pc = .ok (.aload i, 2)) (hl : ldv l i = some (.inr (.inr r))) (e : pc + 2 = q) (k : Wp d μ q l (.inr (.inr r) :: st) σ P) : Wp d μ pc l st σ P :=
  wp_sA (pc' := q) (l' := l) (st' := .inr (.inr r) :: st) hd (by show (if 2 = 2 then liA l i (pc + 2) st else none) = _; rw [if_pos rfl, liA, hl, e]) k
theorem wp_lload_n {i : Fin 4} {x : Int64} (hd : decode μ.1 pc = .ok (.lload_n i, 1)) (hl : ldv l i = some (vL x)) (e : pc + 1 = q) (k : Wp d μ q l (vL x :: st) σ P) : Wp d μ pc l st σ P :=
  wp_sA (pc' := q) (l' := l) (st' := vL x :: st) hd (by show (if 1 = 1 then liL l i (pc + 1) st else none) = _; rw [if_pos rfl, liL, hl, e]) k
theorem wp_lload {i : Nat} {x : Int64} (hd : decode μ.1 pc = .ok (.lload i, 2)) (hl : ldv l i = some (vL x)) (e : pc + 2 = q) (k : Wp d μ q l (vL x :: st) σ P) : Wp d μ pc l st σ P :=
  wp_sA (pc' := q) (l' := l) (st' := vL x :: st) hd (by show (if 2 = 2 then liL l i (pc + 2) st else none) = _; rw [if_pos rfl, liL, hl, e]) k
theorem wp_istore_n {i : Fin 4} {x : Int32} {l' : Lv} (hd : decode μ.1 pc = .ok (.istore_n i, 1)) (hl : qsto l i (vI x) = some l') (e : pc + 1 = q) (k : Wp d μ q l' st σ P) : Wp d μ pc l (vI x :: st) σ P :=
  wp_sA (pc' := q) (l' := l') (st' := st) hd (by show (if 1 = 1 then siI l i (pc + 1) (vI x :: st) else none) = _; rw [if_pos rfl, siI, hl, e]; rfl) k
theorem wp_istore {i : Nat} {x : Int32} {l' : Lv} (hd : decode μ.1 pc = .ok (.istore i, 2)) (hl : qsto l i (vI x) = some l') (e : pc + 2 = q) (k : Wp d μ q l' st σ P) : Wp d μ pc l (vI x :: st) σ P :=
  wp_sA (pc' := q) (l' := l') (st' := st) hd (by show (if 2 = 2 then siI l i (pc + 2) (vI x :: st) else none) = _; rw [if_pos rfl, siI, hl, e]; rfl) k
theorem wp_astore_n {i : Fin 4} {r : Option Rf} {l' : Lv} (hd : decode μ.1 pc = .ok (.astore_n i, 1)) (hl : qsto l i (.inr (.inr r)) = some l') (e : pc + 1 = q) (k : Wp d μ q l' st σ P) : Wp d μ pc l (.inr (.inr r) :: st) σ P :=
  wp_sA (pc' := q) (l' := l') (st' := st) hd (by show (if 1 = 1 then siA l i (pc + 1) (.inr (.inr r) :: st) else none) = _; rw [if_pos rfl, siA, hl, e]; rfl) k
theorem wp_astore {i : Nat} {r : Option Rf} {l' : Lv} (hd : decode μ.1 pc = .ok (.astore i, 2)) (hl : qsto l i (.inr (.inr r)) = some l') (e : pc + 2 = q) (k : Wp d μ q l' st σ P) : Wp d μ pc l (.inr (.inr r) :: st) σ P :=
  wp_sA (pc' := q) (l' := l') (st' := st) hd (by show (if 2 = 2 then siA l i (pc + 2) (.inr (.inr r) :: st) else none) = _; rw [if_pos rfl, siA, hl, e]; rfl) k
theorem wp_lstore_n {i : Fin 4} {x : Int64} {l' : Lv} (hd : decode μ.1 pc = .ok (.lstore_n i, 1)) (hl : qstoL l i (vL x) = some l') (e : pc + 1 = q) (k : Wp d μ q l' st σ P) : Wp d μ pc l (vL x :: st) σ P :=
  wp_sA (pc' := q) (l' := l') (st' := st) hd (by show (if 1 = 1 then siL l i (pc + 1) (vL x :: st) else none) = _; rw [if_pos rfl, siL, hl, e]; rfl) k
theorem wp_lstore {i : Nat} {x : Int64} {l' : Lv} (hd : decode μ.1 pc = .ok (.lstore i, 2)) (hl : qstoL l i (vL x) = some l') (e : pc + 2 = q) (k : Wp d μ q l' st σ P) : Wp d μ pc l (vL x :: st) σ P :=
  wp_sA (pc' := q) (l' := l') (st' := st) hd (by show (if 2 = 2 then siL l i (pc + 2) (vL x :: st) else none) = _; rw [if_pos rfl, siL, hl, e]; rfl) k
theorem wp_iinc {i : Nat} {z : Int} {x v : Int32} {l' : Lv} (hd : decode μ.1 pc = .ok (.iinc i z, 3)) (hx : ldv l i = some (vI x)) (hv : Int32.ofInt z = v) (hl : qsto l i (vI (x + v)) = some l') (e : pc + 3 = q) (k : Wp d μ q l' st σ P) : Wp d μ pc l st σ P := by
  subst hv
  exact wp_sA (pc' := q) (l' := l') (st' := st) hd (by simp only [sA]; rw [if_pos trivial, hx]; dsimp only; rw [hl, e]; rfl) k
theorem wp_iadd {x y : Int32} (hd : decode μ.1 pc = .ok (.iadd, 1)) (e : pc + 1 = q) (k : Wp d μ q l (vI (x + y) :: st) σ P) : Wp d μ pc l (vI y :: vI x :: st) σ P := wp_sA hd rfl (by rw [e]; exact k)
theorem wp_isub {x y : Int32} (hd : decode μ.1 pc = .ok (.isub, 1)) (e : pc + 1 = q) (k : Wp d μ q l (vI (x - y) :: st) σ P) : Wp d μ pc l (vI y :: vI x :: st) σ P := wp_sA hd rfl (by rw [e]; exact k)
theorem wp_imul {x y : Int32} (hd : decode μ.1 pc = .ok (.imul, 1)) (e : pc + 1 = q) (k : Wp d μ q l (vI (x * y) :: st) σ P) : Wp d μ pc l (vI y :: vI x :: st) σ P := wp_sA hd rfl (by rw [e]; exact k)
theorem wp_iand {x y : Int32} (hd : decode μ.1 pc = .ok (.iand, 1)) (e : pc + 1 = q) (k : Wp d μ q l (vI (x &&& y) :: st) σ P) : Wp d μ pc l (vI y :: vI x :: st) σ P := wp_sA hd rfl (by rw [e]; exact k)
theorem wp_ior {x y : Int32} (hd : decode μ.1 pc = .ok (.ior, 1)) (e : pc + 1 = q) (k : Wp d μ q l (vI (x ||| y) :: st) σ P) : Wp d μ pc l (vI y :: vI x :: st) σ P := wp_sA hd rfl (by rw [e]; exact k)
theorem wp_ixor {x y : Int32} (hd : decode μ.1 pc = .ok (.ixor, 1)) (e : pc + 1 = q) (k : Wp d μ q l (vI (x ^^^ y) :: st) σ P) : Wp d μ pc l (vI y :: vI x :: st) σ P := wp_sA hd rfl (by rw [e]; exact k)
theorem wp_ishl {x y : Int32} (hd : decode μ.1 pc = .ok (.ishl, 1)) (e : pc + 1 = q) (k : Wp d μ q l (vI (x <<< (y &&& 31)) :: st) σ P) : Wp d μ pc l (vI y :: vI x :: st) σ P := wp_sA hd rfl (by rw [e]; exact k)
theorem wp_ishr {x y : Int32} (hd : decode μ.1 pc = .ok (.ishr, 1)) (e : pc + 1 = q) (k : Wp d μ q l (vI (x >>> (y &&& 31)) :: st) σ P) : Wp d μ pc l (vI y :: vI x :: st) σ P := wp_sA hd rfl (by rw [e]; exact k)
theorem wp_iushr {x y : Int32} (hd : decode μ.1 pc = .ok (.iushr, 1)) (e : pc + 1 = q) (k : Wp d μ q l (vI (x.toUInt32 >>> (y.toUInt32 &&& Int32.toUInt32 31)).toInt32 :: st) σ P) : Wp d μ pc l (vI y :: vI x :: st) σ P := wp_sA hd rfl (by rw [e]; exact k)
theorem wp_idiv {x y : Int32} (hd : decode μ.1 pc = .ok (.idiv, 1)) (hy : ¬ y = 0) (e : pc + 1 = q) (k : Wp d μ q l (vI (x / y) :: st) σ P) : Wp d μ pc l (vI y :: vI x :: st) σ P := wp_sA (pc' := q) (l' := l) (st' := vI (x / y) :: st) hd (by simp only [sA]; rw [if_pos trivial, if_neg hy, e]) k
theorem wp_irem {x y : Int32} (hd : decode μ.1 pc = .ok (.irem, 1)) (hy : ¬ y = 0) (e : pc + 1 = q) (k : Wp d μ q l (vI (x - x / y * y) :: st) σ P) : Wp d μ pc l (vI y :: vI x :: st) σ P := wp_sA (pc' := q) (l' := l) (st' := vI (x - x / y * y) :: st) hd (by simp only [sA]; rw [if_pos trivial, if_neg hy, e]) k
theorem wp_ineg {x : Int32} (hd : decode μ.1 pc = .ok (.ineg, 1)) (e : pc + 1 = q) (k : Wp d μ q l (vI (-x) :: st) σ P) : Wp d μ pc l (vI x :: st) σ P := wp_sA hd rfl (by rw [e]; exact k)
theorem wp_i2b {x : Int32} (hd : decode μ.1 pc = .ok (.i2b, 1)) (e : pc + 1 = q) (k : Wp d μ q l (vI x.toInt8.toInt32 :: st) σ P) : Wp d μ pc l (vI x :: st) σ P := wp_sA hd rfl (by rw [e]; exact k)
theorem wp_i2s {x : Int32} (hd : decode μ.1 pc = .ok (.i2s, 1)) (e : pc + 1 = q) (k : Wp d μ q l (vI x.toInt16.toInt32 :: st) σ P) : Wp d μ pc l (vI x :: st) σ P := wp_sA hd rfl (by rw [e]; exact k)
theorem wp_i2c {x : Int32} (hd : decode μ.1 pc = .ok (.i2c, 1)) (e : pc + 1 = q) (k : Wp d μ q l (vI (x.toUInt32 % 65536).toInt32 :: st) σ P) : Wp d μ pc l (vI x :: st) σ P := wp_sA hd rfl (by rw [e]; exact k)
theorem wp_i2l {x : Int32} (hd : decode μ.1 pc = .ok (.i2l, 1)) (e : pc + 1 = q) (k : Wp d μ q l (vL x.toInt64 :: st) σ P) : Wp d μ pc l (vI x :: st) σ P := wp_sA hd rfl (by rw [e]; exact k)
theorem wp_l2i {x : Int64} (hd : decode μ.1 pc = .ok (.l2i, 1)) (e : pc + 1 = q) (k : Wp d μ q l (vI x.toInt32 :: st) σ P) : Wp d μ pc l (vL x :: st) σ P := wp_sA hd rfl (by rw [e]; exact k)
theorem wp_ladd {x y : Int64} (hd : decode μ.1 pc = .ok (.ladd, 1)) (e : pc + 1 = q) (k : Wp d μ q l (vL (x + y) :: st) σ P) : Wp d μ pc l (vL y :: vL x :: st) σ P := wp_sA hd rfl (by rw [e]; exact k)
theorem wp_lsub {x y : Int64} (hd : decode μ.1 pc = .ok (.lsub, 1)) (e : pc + 1 = q) (k : Wp d μ q l (vL (x - y) :: st) σ P) : Wp d μ pc l (vL y :: vL x :: st) σ P := wp_sA hd rfl (by rw [e]; exact k)
theorem wp_lneg {x : Int64} (hd : decode μ.1 pc = .ok (.lneg, 1)) (e : pc + 1 = q) (k : Wp d μ q l (vL (-x) :: st) σ P) : Wp d μ pc l (vL x :: st) σ P := wp_sA hd rfl (by rw [e]; exact k)
theorem wp_lcmp {x y : Int64} (hd : decode μ.1 pc = .ok (.lcmp, 1)) (e : pc + 1 = q) (k : Wp d μ q l (vI (lg_cmp x y) :: st) σ P) : Wp d μ pc l (vL y :: vL x :: st) σ P := wp_sA hd rfl (by rw [e]; exact k)
theorem wp_dup {v : Av} (hd : decode μ.1 pc = .ok (.dup, 1)) (hv : qcat v = 1) (e : pc + 1 = q) (k : Wp d μ q l (v :: v :: st) σ P) : Wp d μ pc l (v :: st) σ P := wp_sA (pc' := q) (l' := l) (st' := v :: v :: st) hd (by simp only [sA]; rw [if_pos trivial, if_pos hv, e]) k
theorem wp_dup2 {v w : Av} (hd : decode μ.1 pc = .ok (.dup2, 1)) (hv : qcat v = 1) (hw : qcat w = 1) (e : pc + 1 = q) (k : Wp d μ q l (v :: w :: v :: w :: st) σ P) : Wp d μ pc l (v :: w :: st) σ P := wp_sA (pc' := q) (l' := l) (st' := v :: w :: v :: w :: st) hd (by simp only [sA]; rw [if_pos trivial, if_pos ⟨hv, hw⟩, e]) k
theorem wp_pop {v : Av} (hd : decode μ.1 pc = .ok (.pop, 1)) (hv : qcat v = 1) (e : pc + 1 = q) (k : Wp d μ q l st σ P) : Wp d μ pc l (v :: st) σ P := wp_sA (pc' := q) (l' := l) (st' := st) hd (by simp only [sA]; rw [if_pos trivial, if_pos hv, e]) k
theorem wp_goto {o : Int} (hd : decode μ.1 pc = .ok (.goto o, 3)) (ht : qjmp pc o = some t) (k : Wp d μ t l st σ P) : Wp d μ pc l st σ P := wp_sA (pc' := t) (l' := l) (st' := st) hd (by simp only [sA]; rw [if_pos trivial, ht]; rfl) k
theorem wp_cmp {c : ClassFile.Cond} {o : Int} {x y : Int32} (hd : decode μ.1 pc = .ok (.if_icmp c o, 3)) (ht : qjmp pc o = some t) (e : pc + 3 = q) (k1 : cndB c x y = true → Wp d μ t l st σ P) (k2 : ¬ cndB c x y = true → Wp d μ q l st σ P) : Wp d μ pc l (vI y :: vI x :: st) σ P := by
  refine wp_sA (pc' := if cndB c x y = true then t else q) (l' := l) (st' := st) hd (by simp only [sA]; rw [if_pos trivial, ht, e]; rfl) ?_
  by_cases h : cndB c x y = true
  · rw [if_pos h]; exact k1 h
  · rw [if_neg h]; exact k2 h
theorem wp_cmp0 {c : ClassFile.Cond} {o : Int} {x : Int32} (hd : decode μ.1 pc = .ok (.ifCond c o, 3)) (ht : qjmp pc o = some t) (e : pc + 3 = q) (k1 : cndB c x 0 = true → Wp d μ t l st σ P) (k2 : ¬ cndB c x 0 = true → Wp d μ q l st σ P) : Wp d μ pc l (vI x :: st) σ P := by
  refine wp_sA (pc' := if cndB c x 0 = true then t else q) (l' := l) (st' := st) hd (by simp only [sA]; rw [if_pos trivial, ht, e]; rfl) ?_
  by_cases h : cndB c x 0 = true
  · rw [if_pos h]; exact k1 h
  · rw [if_neg h]; exact k2 h
def bI (p : Prop) [Decidable p] : Int32 := if p then 1 else 0
theorem bI_0 {p : Prop} [Decidable p] : bI p = 0 ↔ ¬ p := by
  unfold bI
  by_cases h : p
  · rw [if_pos h]; exact ⟨fun z => absurd z (by decide), fun z => absurd h z⟩
  · rw [if_neg h]; exact ⟨fun _ => h, fun _ => rfl⟩
end RU
section RU2
variable {d : Nat} {μ : Mu} {pc q t : Nat} {l : Lv} {st : List Av} {σ : St} {P : Option Av → St → Prop} {o : Int} {x y : Int32}
theorem wp_icmp_eq (hd : decode μ.1 pc = .ok (.if_icmp .eq o, 3)) (ht : qjmp pc o = some t) (e : pc + 3 = q) (k1 : x = y → Wp d μ t l st σ P) (k2 : ¬ x = y → Wp d μ q l st σ P) : Wp d μ pc l (vI y :: vI x :: st) σ P := wp_cmp hd ht e (fun h => k1 (of_decide_eq_true h)) (fun h => k2 (fun z => h (decide_eq_true z)))
theorem wp_if_eq (hd : decode μ.1 pc = .ok (.ifCond .eq o, 3)) (ht : qjmp pc o = some t) (e : pc + 3 = q) (k1 : x = 0 → Wp d μ t l st σ P) (k2 : ¬ x = 0 → Wp d μ q l st σ P) : Wp d μ pc l (vI x :: st) σ P := wp_cmp0 hd ht e (fun h => k1 (of_decide_eq_true h)) (fun h => k2 (fun z => h (decide_eq_true z)))
theorem wp_icmp_ne (hd : decode μ.1 pc = .ok (.if_icmp .ne o, 3)) (ht : qjmp pc o = some t) (e : pc + 3 = q) (k1 : ¬ x = y → Wp d μ t l st σ P) (k2 : x = y → Wp d μ q l st σ P) : Wp d μ pc l (vI y :: vI x :: st) σ P := wp_cmp hd ht e (fun h => k1 (of_decide_eq_true h)) (fun h => k2 (Decidable.of_not_not (fun z => h (decide_eq_true z))))
theorem wp_if_ne (hd : decode μ.1 pc = .ok (.ifCond .ne o, 3)) (ht : qjmp pc o = some t) (e : pc + 3 = q) (k1 : ¬ x = 0 → Wp d μ t l st σ P) (k2 : x = 0 → Wp d μ q l st σ P) : Wp d μ pc l (vI x :: st) σ P := wp_cmp0 hd ht e (fun h => k1 (of_decide_eq_true h)) (fun h => k2 (Decidable.of_not_not (fun z => h (decide_eq_true z))))
theorem wp_icmp_lt (hd : decode μ.1 pc = .ok (.if_icmp .lt o, 3)) (ht : qjmp pc o = some t) (e : pc + 3 = q) (k1 : x < y → Wp d μ t l st σ P) (k2 : ¬ x < y → Wp d μ q l st σ P) : Wp d μ pc l (vI y :: vI x :: st) σ P := wp_cmp hd ht e (fun h => k1 (of_decide_eq_true h)) (fun h => k2 (fun z => h (decide_eq_true z)))
theorem wp_if_lt (hd : decode μ.1 pc = .ok (.ifCond .lt o, 3)) (ht : qjmp pc o = some t) (e : pc + 3 = q) (k1 : x < 0 → Wp d μ t l st σ P) (k2 : ¬ x < 0 → Wp d μ q l st σ P) : Wp d μ pc l (vI x :: st) σ P := wp_cmp0 hd ht e (fun h => k1 (of_decide_eq_true h)) (fun h => k2 (fun z => h (decide_eq_true z)))
theorem wp_icmp_ge (hd : decode μ.1 pc = .ok (.if_icmp .ge o, 3)) (ht : qjmp pc o = some t) (e : pc + 3 = q) (k1 : y ≤ x → Wp d μ t l st σ P) (k2 : ¬ y ≤ x → Wp d μ q l st σ P) : Wp d μ pc l (vI y :: vI x :: st) σ P := wp_cmp hd ht e (fun h => k1 (of_decide_eq_true h)) (fun h => k2 (fun z => h (decide_eq_true z)))
theorem wp_if_ge (hd : decode μ.1 pc = .ok (.ifCond .ge o, 3)) (ht : qjmp pc o = some t) (e : pc + 3 = q) (k1 : 0 ≤ x → Wp d μ t l st σ P) (k2 : ¬ 0 ≤ x → Wp d μ q l st σ P) : Wp d μ pc l (vI x :: st) σ P := wp_cmp0 hd ht e (fun h => k1 (of_decide_eq_true h)) (fun h => k2 (fun z => h (decide_eq_true z)))
theorem wp_icmp_gt (hd : decode μ.1 pc = .ok (.if_icmp .gt o, 3)) (ht : qjmp pc o = some t) (e : pc + 3 = q) (k1 : y < x → Wp d μ t l st σ P) (k2 : ¬ y < x → Wp d μ q l st σ P) : Wp d μ pc l (vI y :: vI x :: st) σ P := wp_cmp hd ht e (fun h => k1 (of_decide_eq_true h)) (fun h => k2 (fun z => h (decide_eq_true z)))
theorem wp_if_gt (hd : decode μ.1 pc = .ok (.ifCond .gt o, 3)) (ht : qjmp pc o = some t) (e : pc + 3 = q) (k1 : 0 < x → Wp d μ t l st σ P) (k2 : ¬ 0 < x → Wp d μ q l st σ P) : Wp d μ pc l (vI x :: st) σ P := wp_cmp0 hd ht e (fun h => k1 (of_decide_eq_true h)) (fun h => k2 (fun z => h (decide_eq_true z)))
theorem wp_icmp_le (hd : decode μ.1 pc = .ok (.if_icmp .le o, 3)) (ht : qjmp pc o = some t) (e : pc + 3 = q) (k1 : x ≤ y → Wp d μ t l st σ P) (k2 : ¬ x ≤ y → Wp d μ q l st σ P) : Wp d μ pc l (vI y :: vI x :: st) σ P := wp_cmp hd ht e (fun h => k1 (of_decide_eq_true h)) (fun h => k2 (fun z => h (decide_eq_true z)))
theorem wp_if_le (hd : decode μ.1 pc = .ok (.ifCond .le o, 3)) (ht : qjmp pc o = some t) (e : pc + 3 = q) (k1 : x ≤ 0 → Wp d μ t l st σ P) (k2 : ¬ x ≤ 0 → Wp d μ q l st σ P) : Wp d μ pc l (vI x :: st) σ P := wp_cmp0 hd ht e (fun h => k1 (of_decide_eq_true h)) (fun h => k2 (fun z => h (decide_eq_true z)))
theorem wp_if_eq_b {p : Prop} [Decidable p] (hd : decode μ.1 pc = .ok (.ifCond .eq o, 3)) (ht : qjmp pc o = some t) (e : pc + 3 = q) (k1 : ¬ p → Wp d μ t l st σ P) (k2 : p → Wp d μ q l st σ P) : Wp d μ pc l (vI (bI p) :: st) σ P := wp_if_eq hd ht e (fun h => k1 (bI_0.mp h)) (fun h => k2 (Decidable.of_not_not (fun z => h (bI_0.mpr z))))
theorem wp_if_ne_b {p : Prop} [Decidable p] (hd : decode μ.1 pc = .ok (.ifCond .ne o, 3)) (ht : qjmp pc o = some t) (e : pc + 3 = q) (k1 : p → Wp d μ t l st σ P) (k2 : ¬ p → Wp d μ q l st σ P) : Wp d μ pc l (vI (bI p) :: st) σ P := wp_if_ne hd ht e (fun h => k1 (Decidable.of_not_not (fun z => h (bI_0.mpr z)))) (fun h => k2 (bI_0.mp h))
theorem wp_ifnullN (hd : decode μ.1 pc = .ok (.ifnull o, 3)) (ht : qjmp pc o = some t) (k : Wp d μ t l st σ P) : Wp d μ pc l (vN :: st) σ P := wp_sA (pc' := t) (l' := l) (st' := st) hd (by simp only [sA]; rw [if_pos trivial, ht]; rfl) k
theorem wp_ifnullS {r : Rf} (hd : decode μ.1 pc = .ok (.ifnull o, 3)) (h5 : 5 ≤ r.1) (e : pc + 3 = q) (k : Wp d μ q l st σ P) : Wp d μ pc l (.inr (.inr (some r)) :: st) σ P := wp_sA (pc' := q) (l' := l) (st' := st) hd (by simp only [sA]; rw [if_pos trivial, if_pos h5, e]) k
theorem wp_ifnonnullN (hd : decode μ.1 pc = .ok (.ifnonnull o, 3)) (e : pc + 3 = q) (k : Wp d μ q l st σ P) : Wp d μ pc l (vN :: st) σ P := wp_sA (pc' := q) (l' := l) (st' := st) hd (by simp only [sA]; rw [if_pos trivial, e]) k
theorem wp_ifnonnullS {r : Rf} (hd : decode μ.1 pc = .ok (.ifnonnull o, 3)) (h5 : 5 ≤ r.1) (ht : qjmp pc o = some t) (k : Wp d μ t l st σ P) : Wp d μ pc l (.inr (.inr (some r)) :: st) σ P := wp_sA (pc' := t) (l' := l) (st' := st) hd (by simp only [sA]; rw [if_pos trivial, if_pos h5, ht]; rfl) k
theorem wp_tswI {df lo hi : Int} {os : Array Int} {len : Nat} (j : Nat) (hd : decode μ.1 pc = .ok (.tableswitch df lo hi os, len)) (hx : x.toInt = lo + j) (hj : lo + j ≤ hi) (ho : os[j]? = some o) (ht : qjmp pc o = some t) (k : Wp d μ t l st σ P) : Wp d μ pc l (vI x :: st) σ P := by
  refine wp_sA (pc' := t) (l' := l) (st' := st) hd ?_ k
  simp only [sA]
  rw [if_neg (by omega), show (x.toInt - lo).toNat = j by omega, ho]
  dsimp only
  rw [ht]; rfl
theorem wp_tswO {df lo hi : Int} {os : Array Int} {len : Nat} (hd : decode μ.1 pc = .ok (.tableswitch df lo hi os, len)) (hx : x.toInt < lo ∨ hi < x.toInt) (ht : qjmp pc df = some t) (k : Wp d μ t l st σ P) : Wp d μ pc l (vI x :: st) σ P := by
  refine wp_sA (pc' := t) (l' := l) (st' := st) hd ?_ k
  simp only [sA]
  rw [if_pos hx, ht]; rfl
theorem wp_lsw {df : Int} {ps : Array (Int × Int)} {len : Nat} (hd : decode μ.1 pc = .ok (.lookupswitch df ps, len)) (ha : (ps.toList.zip (ps.toList.drop 1)).all (fun (a, next) => a.1 < next.1) = true) (ho : Op.lookupswitch.offset ps.toList df x.toInt = o) (ht : qjmp pc o = some t) (k : Wp d μ t l st σ P) : Wp d μ pc l (vI x :: st) σ P := by
  refine wp_sA (pc' := t) (l' := l) (st' := st) hd ?_ k
  simp only [sA]
  rw [if_pos ha, ho, ht]; rfl
/-! returns -/
theorem wp_ret (hd : decode μ.1 pc = .ok (.return_, 1)) (hr : μ.2.2.2 = none) (k : P none σ) : Wp d μ pc l [] σ P := wp_sE hd rfl rfl rfl (by rw [hr]; rfl) k
theorem wp_iret {ty : FieldType} (hd : decode μ.1 pc = .ok (.ireturn, 1)) (hr : μ.2.2.2 = some ty) (hn : narrow ty (.int x) = .int x) (k : P (some (vI x)) σ) : Wp d μ pc l [vI x] σ P := wp_sE hd rfl rfl rfl (by rw [hr]; show (if 1 = 1 then (if narrow ty (.int x) = .int x then some (some (vI x)) else none) else none) = _; rw [if_pos rfl, if_pos hn]) k
theorem wp_bret {p : Prop} [Decidable p] (hd : decode μ.1 pc = .ok (.ireturn, 1)) (hr : μ.2.2.2 = some .boolean) (k : P (some (vI (bI p))) σ) : Wp d μ pc l [vI (bI p)] σ P := wp_iret hd hr (by unfold bI; by_cases h : p <;> simp only [h, if_true, if_false] <;> rfl) k
theorem wp_lret {z : Int64} (hd : decode μ.1 pc = .ok (.lreturn, 1)) (hr : μ.2.2.2 = some .long) (k : P (some (vL z)) σ) : Wp d μ pc l [vL z] σ P := wp_sE hd rfl rfl rfl (by rw [hr]; rfl) k
theorem wp_aret {ty : FieldType} {r : Option Rf} (hd : decode μ.1 pc = .ok (.areturn, 1)) (hr : μ.2.2.2 = some ty) (ht : rfT ty = true) (k : P (some (.inr (.inr r))) σ) : Wp d μ pc l [.inr (.inr r)] σ P := wp_sE hd rfl rfl rfl (by rw [hr]; show (if 1 = 1 then (if rfT ty = true then _ else none) else none) = _; rw [if_pos rfl, if_pos ht]) k
end RU2
