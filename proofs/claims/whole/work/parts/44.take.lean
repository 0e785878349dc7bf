/-! THE PURE PART, 29: a log takes another over -/
section
variable {d i j : Nat}
theorem upd_cp {g h : Nat → Int32} {k q : Nat} (hg : q ≠ k → g q = h q) : upd g k (h k) q = h q := by
  unfold upd
  by_cases e : q = k
  · rw [if_pos e, e]
  · rw [if_neg e]; exact hg e
theorem c1_take {s : Sn} {g : Nat} (hi : i < 4) (hj : j < 4) (hg : g < 12) (hne : ((12, j, g) : Rf) ≠ (12, i, g)) : Ca d MX1_takeOver [.inr (.inr (some (12, i, g))), .inr (.inr (some (12, j, g)))] (hN s) (Pn fun t => (∀ w, w < 5 → t.1 (12, i, g) w = s.1 (12, j, g) w) ∧ FQ (fun r => r = (12, i, g)) s t) := by
  change Wp _ _ 0 [some _, some _] [] _ _
  refine wp_aload_n dX1_takeOver_0 rfl rfl ?_
  refine wp_aload_n dX1_takeOver_1 rfl rfl ?_
  refine wn_getI dX1_takeOver_2 fRX1_9 (o12 hj hg) rfl rfl ?_
  refine wn_putI dX1_takeOver_5 fRX1_9 (o12 hi hg) rfl rfl rfl ?_
  refine wp_aload_n dX1_takeOver_8 rfl rfl ?_
  refine wp_aload_n dX1_takeOver_9 rfl rfl ?_
  refine wn_getI dX1_takeOver_10 fRX1_15 (o12 hj hg) rfl rfl ?_
  rw [sI_nr hne]
  refine wn_putI dX1_takeOver_13 fRX1_15 (o12 hi hg) rfl rfl rfl ?_
  refine wp_aload_n dX1_takeOver_16 rfl rfl ?_
  refine wp_aload_n dX1_takeOver_17 rfl rfl ?_
  refine wn_getI dX1_takeOver_18 fRX1_18 (o12 hj hg) rfl rfl ?_
  rw [sI_nr hne, sI_nr hne]
  refine wn_putI dX1_takeOver_21 fRX1_18 (o12 hi hg) rfl rfl rfl ?_
  refine wp_aload_n dX1_takeOver_24 rfl rfl ?_
  refine wp_aload_n dX1_takeOver_25 rfl rfl ?_
  refine wn_getI dX1_takeOver_26 fRX1_21 (o12 hj hg) rfl rfl ?_
  rw [sI_nr hne, sI_nr hne, sI_nr hne]
  refine wn_putI dX1_takeOver_29 fRX1_21 (o12 hi hg) rfl rfl rfl ?_
  refine wp_aload_n dX1_takeOver_32 rfl rfl ?_
  refine wp_aload_n dX1_takeOver_33 rfl rfl ?_
  refine wn_getI dX1_takeOver_34 fRX1_24 (o12 hj hg) rfl rfl ?_
  rw [sI_nr hne, sI_nr hne, sI_nr hne, sI_nr hne]
  refine wn_putI dX1_takeOver_37 fRX1_24 (o12 hi hg) rfl rfl rfl ?_
  refine wp_ret dX1_takeOver_40 rfl ?_
  have hX : (fun r : Rf => r = (12, i, g)) (12, i, g) := rfl
  refine ⟨_, rfl, rfl, fun w hw => ?_, ((((FQ.pt (X := fun r : Rf => r = (12, i, g)) FQ.rf hX).pt hX).pt hX).pt hX).pt hX⟩
  rw [sI_row, sI_row, sI_row, sI_row, sI_row]
  exact upd_cp fun h4 => upd_cp fun h3 => upd_cp fun h2 => upd_cp fun h1 => upd_cp fun h0 => by omega
end
