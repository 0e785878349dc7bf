/-! THE PURE PART, 81: new cells -/
section
variable {d : Nat} {μ : Mu} {pc q k : Nat} {l : Lv} {st : List Av} {P : Option Av → St → Prop} {s : Sx}
/-- a new cell, all of it 0 or null -/
def nwX (s : Sx) (ln sl : Nat) : Sx := (fun z j => if z = qmk s.2.2.2.1 then 0 else s.1 z j, fun z j => if z = qmk s.2.2.2.1 then none else s.2.1 z j, fun z => if z = qmk s.2.2.2.1 then ln else s.2.2.1 z, s.2.2.2.1 + 1, s.2.2.2.2 + sl)
theorem alc_nw {f : Nat → Av} {ln sl : Nat} (hf : ∀ q, f q = if isI (qmk s.2.2.2.1).1 q = true then vI 0 else .inr (.inr none)) : alc (hs s) f ln sl = hs (nwX s ln sl) := by
  refine Prod.ext ?_ rfl
  funext z j
  show (if z = qmk s.2.2.2.1 then f else hp s z) j = hp (nwX s ln sl) z j
  by_cases e : z = qmk s.2.2.2.1
  · rw [if_pos e, hf j, e]
    unfold hp nwX
    dsimp only
    rw [if_pos rfl, if_pos rfl]
  · rw [if_neg e]
    unfold hp nwX
    dsimp only
    rw [if_neg e, if_neg e]
theorem wp_new {ci : Nat} (hd : decode μ.1 pc = .ok (.new k, 3)) (hf : nwc μ.2.1.cls k = some ci) (hk : kd (qmk s.2.2.2.1).1 = ci) (h2 : ∀ q, dfv (tyOf ci q) = if isI (qmk s.2.2.2.1).1 q = true then vI 0 else .inr (.inr none)) (e : pc + 3 = q) (kk : Wp d μ q l (.inr (.inr (some (qmk s.2.2.2.1))) :: st) (hs (nwX s 0 (nFl ci))) P) : Wp d μ pc l st (hs s) P := by
  refine wp_sC (pc' := q) (st' := .inr (.inr (some (qmk s.2.2.2.1))) :: st) (σ1 := hs (nwX s 0 (nFl ci))) hd rfl rfl ?_ kk
  simp only [sC]
  rw [if_pos trivial, hf]
  show (if kd (qmk s.2.2.2.1).1 = ci then some (pc + 3, .inr (.inr (some (qmk s.2.2.2.1))) :: st, alc (hs s) (fun q => dfv (tyOf ci q)) 0 (nFl ci)) else none) = _
  rw [if_pos hk, e, alc_nw h2]
theorem wp_newarr {t : ArrayType} {x : Int32} {N : Nat} (hd : decode μ.1 pc = .ok (.newarray t, 2)) (h14 : nwk t < 14) (hk : kd (qmk s.2.2.2.1).1 = nwk t) (hx : 0 ≤ x ∧ x.toNatClampNeg = N) (hN : N ≤ 100000) (ho : okw (.arrayClass (newarray.typeOf t)) = true) (hi : isA (qmk s.2.2.2.1).1 = true) (e : pc + 2 = q) (kk : Wp d μ q l (.inr (.inr (some (qmk s.2.2.2.1))) :: st) (hs (nwX s N N)) P) : Wp d μ pc l (vI x :: st) (hs s) P := by
  refine wp_sC (pc' := q) (st' := .inr (.inr (some (qmk s.2.2.2.1))) :: st) (σ1 := hs (nwX s N N)) hd rfl rfl ?_ kk
  simp only [sC]
  rw [if_pos trivial]
  show (if nwk t < 14 ∧ kd (qmk s.2.2.2.1).1 = nwk t ∧ 0 ≤ x ∧ x.toNatClampNeg ≤ 100000 ∧ okw (.arrayClass (newarray.typeOf t)) = true then some (pc + 2, .inr (.inr (some (qmk s.2.2.2.1))) :: st, alc (hs s) (fun _ => vI 0) x.toNatClampNeg x.toNatClampNeg) else none) = _
  rw [hx.2, if_pos ⟨h14, hk, hx.1, hN, ho⟩, e, alc_nw (fun j => (if_pos (isA_I hi j)).symm)]
theorem df34 : ∀ q, dfv (tyOf 0 q) = if isI 34 q = true then vI 0 else .inr (.inr none)
  | 0 => rfl
  | 1 => rfl
  | 2 => rfl
  | q + 3 => by
    rw [show isI 34 (q + 3) = false from by show decide (q + 3 < 2) = false; exact decide_eq_false (by omega)]
    rfl
end
