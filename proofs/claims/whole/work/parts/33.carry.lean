/-! THE PURE PART, 23: the class's river counts, and looks its law up -/
section
variable {d i : Nat}
theorem c3_carry {s : Sn} {f : Fl} {j c m q : Nat} (hi : i < 4) (hj : j < c) (hj12 : j < 12) (hm : m ≤ 13) (hM : MW s i f c) (hq13 : q ≤ 13) (hq : f (45 + 5 * j + 3) = nI q) : Ca (d + 2) MX3_carry [vR 11 i 0, vR 12 i j, vI (nI m)] (hN s) (Pn fun t => MW t i (gdn j m f) c ∧ FQ (XR i) s t) := by
  change Wp _ _ 0 [some _, some _, some _, none] [] _ _
  refine wp_iconst (v := 0) dX3_carry_0 (by decide) rfl ?_
  refine wp_istore_n (l' := [_, _, _, some _]) dX3_carry_1 rfl rfl ?_
  have h := l3_carry (d := d) hi hj hj12 hm 0 (Nat.zero_le _) s f hM q hq13 hq
  rw [Nat.sub_zero] at h
  exact h
end
