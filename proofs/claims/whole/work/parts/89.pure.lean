/-! THE PURE CLAIM: the interpreter on the law -/
def lawM : Mu := (code, x, maxLocals, ret)
def st0 (L : Nat) (xs : Nat → Int32) : St := (xH xs, xL L, 0, 0)
theorem law_pure (L : Nat) (hL : L ≤ 3072) (xs : Nat → Int32) : ∃ n σ', xc n 14 lawM 0 (qent [vR 0 0 0] 4) [] (st0 L xs) = some (some (vI 1), σ') ∧ σ'.2.2.1 ≤ 600000 ∧ σ'.2.2.2 ≤ 7302250 := by
  sorry
