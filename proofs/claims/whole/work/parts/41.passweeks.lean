section
variable {d i : Nat}
theorem l3_pws {c c8 n : Nat} (hi : i < 4) (hn : n < 1000) : ∀ k, k ≤ n → ∀ (s1 : Sn) (f1 : Fl), RV s1 i f1 c → Wr f1 c c8 → LwR s1 i f1 c8 → Wp (d + 5) MX3_passWeeks 2 [some (vR 11 i 0), some (vI (nI n)), some (vI (nI k))] [] (hN s1) (Pn fun t => (RV t i (weks (n - k) f1) c ∧ LwR t i (weks (n - k) f1) c8) ∧ FQ (XR i) s1 t) := by
  refine ind_up (fun k hk ih => ?_)
  intro s1 f1 hV hW hL
  refine wp_iload_n dX3_passWeeks_2 rfl rfl ?_
  refine wp_iload_n dX3_passWeeks_3 rfl rfl ?_
  refine wp_icmp_ge (t := 17) dX3_passWeeks_4 rfl rfl (fun h4 => ?_) (fun h4 => ?_)
  · refine wp_ret dX3_passWeeks_17 rfl ?_
    have hkn : k = n := by have := (nI_leI (by omega) (by omega)).mp h4; omega
    subst hkn
    refine ⟨_, rfl, rfl, ?_, FQ.rf⟩
    rw [Nat.sub_self]
    exact ⟨hV, hL⟩
  · have hl : k < n := by have := mt (nI_leI (by omega) (by omega)).mpr h4; omega
    refine wp_aload_n dX3_passWeeks_7 rfl rfl ?_
    refine wn_callV0n dX3_passWeeks_8 rRX3_133 (rcv_of (o11 hi) rfl) (Nat.le_of_ble_eq_true rfl)  (Nat.le_of_ble_eq_true rfl) rfl (c3_passWeek hi hV hW hL) (fun s8 hq8 => ?_)
    obtain ⟨⟨hV8, hL8⟩, hF8⟩ := hq8
    refine wp_iinc (l' := [_, _, some _]) (v := 1) dX3_passWeeks_11 rfl (by decide) rfl rfl ?_
    refine wp_goto (t := 2) dX3_passWeeks_14 rfl ?_
    rw [nI_1]
    refine (ih hl s8 (wek f1) hV8 hW.wek hL8).conseq ?_
    rintro v σ1 ⟨t, rfl, rfl, hMt, hFt⟩
    refine ⟨_, rfl, rfl, ?_, hF8.tr hFt⟩
    rw [show n - k = (n - (k + 1)) + 1 by omega]
    exact hMt
theorem c3_passWeeks {s : Sn} {f : Fl} {c c8 n : Nat} (hi : i < 4) (hn : n < 1000) (hV : RV s i f c) (hW : Wr f c c8) (hL : LwR s i f c8) : Ca (d + 5) MX3_passWeeks [vR 11 i 0, vI (nI n)] (hN s) (Pn fun t => (RV t i (weks n f) c ∧ LwR t i (weks n f) c8) ∧ FQ (XR i) s t) := by
  change Wp _ _ 0 [some _, some _, none] [] _ _
  refine wp_iconst (v := 0) dX3_passWeeks_0 (by decide) rfl ?_
  refine wp_istore_n (l' := [_, _, some _]) dX3_passWeeks_1 rfl rfl ?_
  have h := l3_pws (d := d) hi hn 0 (Nat.zero_le _) s f hV hW hL
  rw [Nat.sub_zero] at h
  exact h
theorem Wr.weks {c c8 : Nat} : ∀ (n : Nat) (f : Fl), Wr f c c8 → Wr (weks n f) c c8
  | 0, f, h => h
  | n + 1, f, h => Wr.weks n _ h.wek
end
