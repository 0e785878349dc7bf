/-! THE PURE PART, 32: logs are dealt -/
section
variable {d i : Nat}
def drw (f : Fl) (c : Nat) : Fl := cmf (upd f 0 (dz (dz (dz (f 0))))) c (rm (dv (dz (f 0))) 6) (rm (dv (dz (dz (f 0)))) 26) (1 + rm (dv (dz (dz (dz (f 0))))) 50)
def dls : Nat → Nat → Fl → Fl
  | 0, _, f => f
  | n + 1, c, f => dls n (c + 1) (drw f c)
theorem upd_upd {f : Fl} {k : Nat} {a b : Int32} : upd (upd f k a) k b = upd f k b := by
  funext q
  unfold upd
  by_cases e : q = k
  · rw [if_pos e, if_pos e]
  · rw [if_neg e, if_neg e, if_neg e]
theorem RV.z {s : Sn} {f : Fl} {c : Nat} {z : Int32} (h : RV s i f c) : RV (sI s (11, i, 0) 15 z) i (upd f 0 z) c := by
  obtain ⟨hR, h13, h1, hc⟩ := h
  exact ⟨RC.pt (q := ((11, i, 0), 15)) hR (show rc i 0 = _ from rfl) (by decide), by rw [sI_nk (by decide), mny_lo (by decide) (by decide)]; exact h13, by rw [upd_ne (by decide)]; exact h1, hc⟩
theorem c3_drawLog {s : Sn} {f : Fl} {c : Nat} (hi : i < 4) (hc : c < 12) (hV : RV s i f c) : Ca (d + 1) MX3_drawLog [vR 11 i 0] (hN s) (Pn fun t => RV t i (drw f c) (c + 1) ∧ FQ (XR i) s t) := by
  change Wp _ _ 0 [some _, none, none, none] [] _ _
  have h0 : s.1 (11, i, 0) 15 = f 0 := hV.1.sc 0 (by decide)
  have hV3 := ((hV.z (z := dz (f 0))).z (z := dz (dz (f 0)))).z (z := dz (dz (dz (f 0))))
  rw [upd_upd, upd_upd] at hV3
  have x2 : XR i (11, i, 0) := Or.inr ⟨rfl, Or.inl rfl⟩
  refine wp_aload_n dX3_drawLog_0 rfl rfl ?_
  refine wn_callV0d dX3_drawLog_1 rRX3_97 (rcv_of (o11 hi) rfl) (Nat.le_of_ble_eq_true rfl)  (Nat.le_of_ble_eq_true rfl) rfl (c3_draw hi) ?_
  rw [h0]
  refine wp_bipush (v := 6) dX3_drawLog_4 (by decide) rfl ?_
  refine wp_irem dX3_drawLog_6 (by decide) rfl ?_
  rw [show ∀ x y : Int32, x - x / y * y = rm x y from fun _ _ => rfl]
  refine wp_istore_n (l' := [_, some _, _, _]) dX3_drawLog_7 rfl rfl ?_
  refine wp_aload_n dX3_drawLog_8 rfl rfl ?_
  refine wn_callV0d dX3_drawLog_9 rRX3_97 (rcv_of (o11 hi) rfl) (Nat.le_of_ble_eq_true rfl)  (Nat.le_of_ble_eq_true rfl) rfl (c3_draw hi) ?_
  rw [sI_eq]
  refine wp_bipush (v := 26) dX3_drawLog_12 (by decide) rfl ?_
  refine wp_irem dX3_drawLog_14 (by decide) rfl ?_
  rw [show ∀ x y : Int32, x - x / y * y = rm x y from fun _ _ => rfl]
  refine wp_istore_n (l' := [_, _, some _, _]) dX3_drawLog_15 rfl rfl ?_
  refine wp_iconst (v := 1) dX3_drawLog_16 (by decide) rfl ?_
  refine wp_aload_n dX3_drawLog_17 rfl rfl ?_
  refine wn_callV0d dX3_drawLog_18 rRX3_97 (rcv_of (o11 hi) rfl) (Nat.le_of_ble_eq_true rfl)  (Nat.le_of_ble_eq_true rfl) rfl (c3_draw hi) ?_
  rw [sI_eq]
  refine wp_bipush (v := 50) dX3_drawLog_21 (by decide) rfl ?_
  refine wp_irem dX3_drawLog_23 (by decide) rfl ?_
  rw [show ∀ x y : Int32, x - x / y * y = rm x y from fun _ _ => rfl]
  refine wp_iadd dX3_drawLog_24 rfl ?_
  refine wp_istore_n (l' := [_, _, _, some _]) dX3_drawLog_25 rfl rfl ?_
  refine wp_aload_n dX3_drawLog_26 rfl rfl ?_
  refine wp_iload_n dX3_drawLog_27 rfl rfl ?_
  refine wp_iload_n dX3_drawLog_28 rfl rfl ?_
  refine wp_iload_n dX3_drawLog_29 rfl rfl ?_
  refine wn_callV3d dX3_drawLog_30 rRX3_101 (rcv_of (o11 hi) rfl) (Nat.le_of_ble_eq_true rfl) rfl rfl rfl (Nat.le_of_ble_eq_true rfl) rfl (c3_addLog hi hc hV3) ?_
  refine wp_pop dX3_drawLog_33 rfl rfl ?_
  refine wp_ret dX3_drawLog_34 rfl ?_
  exact ⟨_, rfl, rfl, cmS_RV hc hV3, ((((FQ.rf.pt x2).pt x2).pt x2)).tr cmS_FQ⟩
theorem l8_deal {n : Nat} (hn : n ≤ 12) : ∀ k, k ≤ n → ∀ (s1 : Sn) (c3 c4 c5 : Option Av) (c : Nat), c ≤ 12 → s1.1 (41, 0, 0) 1 = nI c → Wp (d + 2) MX8_deal 15 [some (vR 40 0 0), some (vI (nI n)), some (vI (nI k)), c3, c4, c5] [] (hN s1) (Pv fun x t => x = nI (k + min (n - k) (12 - c)) ∧ t.1 (41, 0, 0) = dls (min (n - k) (12 - c)) c (s1.1 (41, 0, 0)) ∧ Fr [(41, 0, 0)] s1 t) := by
  refine ind_up (fun k hk ih => ?_)
  intro s1 c3 c4 c5 c hc h1
  refine wp_iload_n dX8_deal_15 rfl rfl ?_
  refine wp_iload_n dX8_deal_16 rfl rfl ?_
  refine wp_icmp_ge (t := 72) dX8_deal_17 rfl rfl (fun h17 => ?_) (fun h17 => ?_)
  · refine wp_iload_n dX8_deal_72 rfl rfl ?_
    refine wp_iret dX8_deal_73 rfl rfl ?_
    have hkn : k = n := by have := (nI_leI (by omega) (by omega)).mp h17; omega
    have hm : min (n - k) (12 - c) = 0 := by omega
    refine ⟨_, _, rfl, rfl, ?_, ?_, Fr.rf⟩
    · rw [hm, Nat.add_zero]
    · rw [hm]; rfl
  · have hl : k < n := by have := mt (nI_leI (by omega) (by omega)).mpr h17; omega
    refine wp_aload_n dX8_deal_20 rfl rfl ?_
    refine wn_getR dX8_deal_21 fRX8_9 o40 rfl rfl rfl ?_
    refine wp_iconst (v := 1) dX8_deal_24 (by decide) rfl ?_
    refine wn_iald (j := 1) dX8_deal_25 (o41 0 rfl) rfl ⟨by decide, by decide⟩ (Nat.le_of_ble_eq_true rfl) rfl ?_
    rw [h1]
    refine wp_bipush (v := 12) dX8_deal_26 (by decide) rfl ?_
    refine wp_icmp_ge (t := 72) dX8_deal_28 rfl rfl (fun h28 => ?_) (fun h28 => ?_)
    · refine wp_iload_n dX8_deal_72 rfl rfl ?_
      refine wp_iret dX8_deal_73 rfl rfl ?_
      have hc12 : c = 12 := by have := (nI_leI (a := 12) (by omega) (by omega)).mp h28; omega
      have hm : min (n - k) (12 - c) = 0 := by omega
      refine ⟨_, _, rfl, rfl, ?_, ?_, Fr.rf⟩
      · rw [hm, Nat.add_zero]
      · rw [hm]; rfl
    · have hc12 : c < 12 := by have := mt (nI_leI (a := 12) (by omega) (by omega)).mpr h28; omega
      have h1c : (sI (sI (sI s1 (41, 0, 0) 0 (dz (s1.1 (41, 0, 0) 0))) (41, 0, 0) 0 (dz (dz (s1.1 (41, 0, 0) 0)))) (41, 0, 0) 0 (dz (dz (dz (s1.1 (41, 0, 0) 0))))).1 (41, 0, 0) 1 = nI c := by
        rw [sI_nk (by decide), sI_nk (by decide), sI_nk (by decide)]; exact h1
      refine wp_aload_n dX8_deal_31 rfl rfl ?_
      refine wn_callV0d dX8_deal_32 rRX8_129 (rcv_of o40 rfl) (Nat.le_of_ble_eq_true rfl)  (Nat.le_of_ble_eq_true rfl) rfl (c8_draw) ?_
      refine wp_bipush (v := 6) dX8_deal_35 (by decide) rfl ?_
      refine wp_irem dX8_deal_37 (by decide) rfl ?_
      rw [show ∀ x y : Int32, x - x / y * y = rm x y from fun _ _ => rfl]
      refine wp_istore_n (l' := [_, _, _, some _, _, _]) dX8_deal_38 rfl rfl ?_
      refine wp_aload_n dX8_deal_39 rfl rfl ?_
      refine wn_callV0d dX8_deal_40 rRX8_129 (rcv_of o40 rfl) (Nat.le_of_ble_eq_true rfl)  (Nat.le_of_ble_eq_true rfl) rfl (c8_draw) ?_
      rw [sI_eq]
      refine wp_bipush (v := 26) dX8_deal_43 (by decide) rfl ?_
      refine wp_irem dX8_deal_45 (by decide) rfl ?_
      rw [show ∀ x y : Int32, x - x / y * y = rm x y from fun _ _ => rfl]
      refine wp_istore (l' := [_, _, _, _, some _, _]) dX8_deal_46 rfl rfl ?_
      refine wp_aload_n dX8_deal_48 rfl rfl ?_
      refine wp_iload_n dX8_deal_49 rfl rfl ?_
      refine wp_iload dX8_deal_50 rfl rfl ?_
      refine wp_iconst (v := 1) dX8_deal_52 (by decide) rfl ?_
      refine wp_aload_n dX8_deal_53 rfl rfl ?_
      refine wn_callV0d dX8_deal_54 rRX8_129 (rcv_of o40 rfl) (Nat.le_of_ble_eq_true rfl)  (Nat.le_of_ble_eq_true rfl) rfl (c8_draw) ?_
      rw [sI_eq]
      refine wp_bipush (v := 50) dX8_deal_57 (by decide) rfl ?_
      refine wp_irem dX8_deal_59 (by decide) rfl ?_
      rw [show ∀ x y : Int32, x - x / y * y = rm x y from fun _ _ => rfl]
      refine wp_iadd dX8_deal_60 rfl ?_
      refine wn_callV3i dX8_deal_61 rRX8_85 (rcv_of o40 rfl) (Nat.le_of_ble_eq_true rfl) rfl rfl rfl (Nat.le_of_ble_eq_true rfl) rfl (c8_comes hc12 h1c) (fun x61 s61 hq61 => ?_)
      obtain ⟨e61, ef61, hF61⟩ := hq61
      rw [sI_row, sI_row, sI_row, upd_upd, upd_upd] at ef61
      have ef : s61.1 (41, 0, 0) = drw (s1.1 (41, 0, 0)) c := ef61
      have hF : Fr [(41, 0, 0)] s1 s61 := (((Fr.rf.pt (by decide)).pt (by decide)).pt (by decide)).tr hF61
      have h161 : s61.1 (41, 0, 0) 1 = nI (c + 1) := by rw [ef]; unfold drw cmf; rw [upd_ne (by omega), upd_ne (by omega), upd_ne (by omega), upd_ne (by omega), upd_ne (by omega), upd_eq]
      refine wp_istore (l' := [_, _, _, _, _, some _]) dX8_deal_64 rfl rfl ?_
      refine wp_iinc (l' := [_, _, some _, _, _, _]) (v := 1) dX8_deal_66 rfl (by decide) rfl rfl ?_
      refine wp_goto (t := 15) dX8_deal_69 rfl ?_
      rw [nI_1]
      refine (ih hl s61 _ _ _ (c + 1) (by omega) h161).conseq ?_
      rintro v σ1 ⟨x, t, rfl, rfl, hx, ht, hFt⟩
      have hm : min (n - k) (12 - c) = min (n - (k + 1)) (12 - (c + 1)) + 1 := by omega
      refine ⟨_, _, rfl, rfl, ?_, ?_, hF.tr hFt⟩
      · rw [hx, hm]
        congr 1
        omega
      · rw [ht, hm, ef]; rfl
end
