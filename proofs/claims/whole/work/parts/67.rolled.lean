/-! THE PURE PART, 48: rolled -/
section
variable {d i : Nat}
theorem rch_13 {r : Int32} {g : Nat} (hr : ¬ (13 : Int32) = r) : ∀ (n : Nat) (f : Fl), f (45 + 5 * g + 3) = 13 → rch r n f (45 + 5 * g + 3) = 13
  | 0, f, h => h
  | n + 1, f, h => by
    rw [rch_s]
    refine rch_13 hr n _ ?_
    by_cases e : f (45 + 5 * (cn f - (n + 1)) + 3) = r
    · rw [if_pos e]
      have hne : g ≠ cn f - (n + 1) := fun z => hr (by rw [← z, h] at e; exact e)
      rw [gdn_keep (by omega) (by omega)]
      exact h
    · rw [if_neg e]; exact h
theorem rvr_13 {g : Nat} : ∀ (n : Nat) (f : Fl), n ≤ 12 → f (45 + 5 * g + 3) = 13 → rvr n f (45 + 5 * g + 3) = 13
  | 0, f, _, h => h
  | n + 1, f, hn, h => by
    rw [rvr_s]
    exact rvr_13 n _ (by omega) (rch_13 (fun z => by have := (nI_eq (a := 13) (by omega) (by omega)).mp z; omega) _ f h)
theorem swg_13 {f : Fl} {g : Nat} (h : f (45 + 5 * g + 3) = 13) : swg f (45 + 5 * g + 3) = 13 := by
  rw [swg_u]
  dsimp only
  split
  · split
    · rw [upd_ne (by omega)]
      by_cases e : g = (rm (dv (dz (f 0))) (f 1)).toNatClampNeg
      · rw [← e, upd_eq]
      · rw [upd_ne (by omega), upd_ne (by omega), upd_ne (by omega)]; exact h
    · rw [upd_ne (by omega), upd_ne (by omega)]; exact h
  · rw [upd_ne (by omega)]; exact h
theorem wek_13 {f : Fl} {g : Nat} (h : f (45 + 5 * g + 3) = 13) : wek f (45 + 5 * g + 3) = 13 := by
  show upd (wk2 (wk1 f)) 2 _ (45 + 5 * g + 3) = 13
  rw [upd_ne (by omega), wk2_u]
  have h1 : wk1 f (45 + 5 * g + 3) = 13 := rvr_13 12 _ (Nat.le_refl _) (by
    show upd (upd f 0 _) 3 _ (45 + 5 * g + 3) = 13
    rw [upd_ne (by omega), upd_ne (by omega)]; exact h)
  split
  · exact swg_13 h1
  · exact h1
theorem weks_13 {g : Nat} : ∀ (n : Nat) (f : Fl), f (45 + 5 * g + 3) = 13 → weks n f (45 + 5 * g + 3) = 13
  | 0, f, h => h
  | n + 1, f, h => weks_13 n _ (wek_13 h)
def lat (p : Nat → Bool) : Nat → Int32
  | 0 => -1000000005
  | k + 1 => if p k = true then nI k else lat p k
abbrev rol (f : Fl) (g k : Nat) : Fl := upd (weks k f) (45 + 5 * g + 3) 0
def rlP (f : Fl) (g n : Nat) : Nat → Bool := fun k => decide (weks (n - k) (rol f g k) (45 + 5 * g + 3) = 12)
abbrev rlO (c : Nat) (x y : Int32) : Prop := (0 ≤ x ∧ x ≤ nI c - 1) ∧ (1 ≤ y ∧ y ≤ 40)
def rlA (f : Fl) (c : Nat) (x y : Int32) : Int32 := if rlO c x y then (if f (45 + 5 * x.toNatClampNeg + 3) = 13 then lat (rlP f x.toNatClampNeg y.toNatClampNeg) y.toNatClampNeg else -1000000002) else -1000000001
theorem rlA_y {f : Fl} {c g n : Nat} (h : rlO c (nI g) (nI n)) (hg : g < 12) (hn : n ≤ 40) (h13 : f (45 + 5 * g + 3) = 13) : rlA f c (nI g) (nI n) = lat (rlP f g n) n := by
  unfold rlA
  rw [if_pos h, nI_clamp (by omega), nI_clamp (by omega), if_pos h13]
theorem rlA_o {f : Fl} {c g n : Nat} (h : rlO c (nI g) (nI n)) (hg : g < 12) (hn : n ≤ 40) (h13 : ¬ f (45 + 5 * g + 3) = 13) : rlA f c (nI g) (nI n) = -1000000002 := by
  unfold rlA
  rw [if_pos h, nI_clamp (by omega), if_neg h13]
theorem rol_Q {f : Fl} {c c8 g k : Nat} (h : Wq f c c8) (hg : g < 12) : Wq (rol f g k) c c8 := (Wq.weks k _ h).upr (r := 0) hg (by decide)
theorem rol_W {f : Fl} {c c8 g k : Nat} (h : Wr f c c8) (hg : g < 12) : Wr (rol f g k) c c8 := (Wr.weks k _ h).upr (r := 0) hg (by decide)
theorem nI_n5 {k : Nat} (hk : k < 2 ^ 31) : ¬ nI k = -1000000005 := fun e => absurd (show ¬ (-1000000005 : Int32) < 0 by rw [← e]; exact nI_pos hk) (by decide)
theorem m1a {k : Nat} : nI k + -1 = nI k - 1 := by rw [m1_sub]
theorem l8_rl {s : Sn} {c c8 g n : Nat} (hW : Wq (s.1 (41, 0, 0)) c c8) (hg12 : g < 12) (hn : n ≤ 40) : ∀ k, k ≤ n → lat (rlP (s.1 (41, 0, 0)) g n) n = lat (rlP (s.1 (41, 0, 0)) g n) k → ∀ s1 : Sn, s1.1 (41, 0, 0) = (s.1 (41, 0, 0)) → BE s1 (s.1 (41, 0, 0)) → Fr XB s s1 → Wp (d + 6) MX8_rolled 47 [some (vR 40 0 0), some (vI (nI g)), some (vI (nI n)), some (vI (-1000000005)), some (vI (nI k - 1))] [] (hN s1) (Pv fun z t => z = lat (rlP (s.1 (41, 0, 0)) g n) n ∧ t.1 (41, 0, 0) = (s.1 (41, 0, 0)) ∧ Fr XB s t) := by
  intro k
  induction k with
  | zero =>
    intro hk hlat s1 e1 hB hF
    refine wp_iload dX8_rolled_47 rfl rfl ?_
    refine wp_if_lt (t := 108) dX8_rolled_49 rfl rfl (fun h49 => ?_) (fun h49 => absurd (by decide : (nI 0 - 1 : Int32) < 0) h49)
    refine wp_iload_n dX8_rolled_108 rfl rfl ?_
    refine wp_iret dX8_rolled_109 rfl rfl ?_
    exact ⟨_, _, rfl, rfl, hlat.symm, e1, hF⟩
  | succ k ih =>
    intro hk hlat s1 e1 hB hF
    rw [nI_pred]
    refine wp_iload dX8_rolled_47 rfl rfl ?_
    refine wp_if_lt (t := 108) dX8_rolled_49 rfl rfl (fun h49 => absurd h49 (nI_pos (by omega))) (fun h49 => ?_)
    refine wp_iload_n dX8_rolled_52 rfl rfl ?_
    refine wp_ldc dX8_rolled_53 kRX8_149 rfl ?_
    refine wp_icmp_ne (t := 108) dX8_rolled_55 rfl rfl (fun h55 => absurd rfl h55) (fun h55 => ?_)
    refine wp_aload_n dX8_rolled_58 rfl rfl ?_
    refine wp_iload dX8_rolled_59 rfl rfl ?_
    refine wn_callV1n dX8_rolled_61 rRX8_146 (rcv_of o40 rfl) (Nat.le_of_ble_eq_true rfl) rfl (Nat.le_of_ble_eq_true rfl) rfl (c8_goesOn (c := c) (c8 := c8) (by omega) (by rw [e1]; exact hW)) (fun s61 hq61 => ?_)
    obtain ⟨e61, hF61⟩ := hq61
    rw [e1] at e61
    refine wp_aload_n dX8_rolled_64 rfl rfl ?_
    refine wp_iload_n dX8_rolled_65 rfl rfl ?_
    refine wp_iconst (v := 3) dX8_rolled_66 (by decide) rfl ?_
    refine wp_iconst (v := 0) dX8_rolled_67 (by decide) rfl ?_
    refine wn_callV3n dX8_rolled_68 rRX8_79 (rcv_of o40 rfl) (Nat.le_of_ble_eq_true rfl) rfl rfl rfl (Nat.le_of_ble_eq_true rfl) rfl (c8_put (j := g) (w := 3) (v := 0) hg12 (by decide)) (fun s68 hq68 => ?_)
    subst hq68
    have e68 : (sI s61 (41, 0, 0) (45 + 5 * g + 3) 0).1 (41, 0, 0) = rol (s.1 (41, 0, 0)) g k := by rw [sI_row, e61]
    refine wp_aload_n dX8_rolled_71 rfl rfl ?_
    refine wp_iload_n dX8_rolled_72 rfl rfl ?_
    refine wp_iload dX8_rolled_73 rfl rfl ?_
    refine wp_isub dX8_rolled_75 rfl ?_
    rw [nI_subn (by omega)]
    refine wn_callV1n dX8_rolled_76 rRX8_146 (rcv_of o40 rfl) (Nat.le_of_ble_eq_true rfl) rfl (Nat.le_of_ble_eq_true rfl) rfl (c8_goesOn (n := n - k) (c := c) (c8 := c8) (by omega) (by rw [e68]; exact rol_Q hW hg12)) (fun s76 hq76 => ?_)
    obtain ⟨e76, hF76⟩ := hq76
    rw [e68] at e76
    have r76 : s76.1 (41, 0, 0) (45 + 5 * g + 3) = weks (n - k) (rol (s.1 (41, 0, 0)) g k) (45 + 5 * g + 3) := by rw [e76]
    have hF6 : Fr XW s1 s76 := (hF61.pt (by decide)).tr hF76
    have hp : ∀ q, 105 ≤ q → s76.1 (41, 0, 0) q = (s.1 (41, 0, 0)) q := fun q hq => by rw [e76, weks_hi hq _ _ (rol_Q hW hg12), rol, upd_ne (by omega), weks_hi hq _ _ hW]
    refine wp_aload_n dX8_rolled_79 rfl rfl ?_
    refine wp_iload_n dX8_rolled_80 rfl rfl ?_
    refine wp_iconst (v := 3) dX8_rolled_81 (by decide) rfl ?_
    refine wn_callV2d dX8_rolled_82 rRX8_93 (rcv_of o40 rfl) (Nat.le_of_ble_eq_true rfl) rfl rfl (Nat.le_of_ble_eq_true rfl) rfl (c8_of (j := g) (w := 3) hg12 (by decide)) ?_
    refine wp_bipush (v := 12) dX8_rolled_85 (by decide) rfl ?_
    refine wp_icmp_ne (t := 95) dX8_rolled_87 rfl rfl (fun h87 => ?_) (fun h87 => ?_)
    · refine wp_ldc dX8_rolled_95 kRX8_149 rfl ?_
      refine wp_istore_n (l' := [_, _, _, some _, _]) dX8_rolled_97 rfl rfl ?_
      refine wp_aload_n dX8_rolled_98 rfl rfl ?_
      refine wn_callV0n dX8_rolled_99 rRX8_159 (rcv_of o40 rfl) (Nat.le_of_ble_eq_true rfl)  (Nat.le_of_ble_eq_true rfl) rfl (c8_putsBack (hB.fr hF6 (by decide)) hp) (fun s99 hq99 => ?_)
      obtain ⟨e99, hF99a⟩ := hq99
      have hF6b := hF6.tr (hF99a.wd X0_W)
      have hB99 := hB.fr hF6b (by decide)
      have hF99 := hF.tr (hF6b.wd XW_B)
      refine wp_iinc (l' := [_, _, _, _, some _]) (v := (-1)) dX8_rolled_102 rfl (by decide) rfl rfl ?_
      refine wp_goto (t := 47) dX8_rolled_105 rfl ?_
      have hP : ¬ rlP (s.1 (41, 0, 0)) g n k = true := fun z => h87 (by rw [r76]; exact of_decide_eq_true z)
      rw [m1a]
      exact ih (by omega) (hlat.trans (if_neg hP)) s99 e99 hB99 hF99
    · refine wp_iload dX8_rolled_90 rfl rfl ?_
      refine wp_goto (t := 97) dX8_rolled_92 rfl ?_
      refine wp_istore_n (l' := [_, _, _, some _, _]) dX8_rolled_97 rfl rfl ?_
      refine wp_aload_n dX8_rolled_98 rfl rfl ?_
      refine wn_callV0n dX8_rolled_99 rRX8_159 (rcv_of o40 rfl) (Nat.le_of_ble_eq_true rfl)  (Nat.le_of_ble_eq_true rfl) rfl (c8_putsBack (hB.fr hF6 (by decide)) hp) (fun s99 hq99 => ?_)
      obtain ⟨e99, hF99a⟩ := hq99
      have hF6b := hF6.tr (hF99a.wd X0_W)
      have hB99 := hB.fr hF6b (by decide)
      have hF99 := hF.tr (hF6b.wd XW_B)
      refine wp_iinc (l' := [_, _, _, _, some _]) (v := (-1)) dX8_rolled_102 rfl (by decide) rfl rfl ?_
      refine wp_goto (t := 47) dX8_rolled_105 rfl ?_
      have hP : rlP (s.1 (41, 0, 0)) g n k = true := decide_eq_true (by rw [← r76]; exact h87)
      refine wp_iload dX8_rolled_47 rfl rfl ?_
      refine wp_if_lt (t := 108) dX8_rolled_49 rfl rfl (fun h49 => ?_) (fun h49 => ?_)
      · refine wp_iload_n dX8_rolled_108 rfl rfl ?_
        refine wp_iret dX8_rolled_109 rfl rfl ?_
        exact ⟨_, _, rfl, rfl, (hlat.trans (if_pos hP)).symm, e99, hF99⟩
      · refine wp_iload_n dX8_rolled_52 rfl rfl ?_
        refine wp_ldc dX8_rolled_53 kRX8_149 rfl ?_
        refine wp_icmp_ne (t := 108) dX8_rolled_55 rfl rfl (fun h55 => ?_) (fun h55 => absurd h55 (nI_n5 (by omega)))
        refine wp_iload_n dX8_rolled_108 rfl rfl ?_
        refine wp_iret dX8_rolled_109 rfl rfl ?_
        exact ⟨_, _, rfl, rfl, (hlat.trans (if_pos hP)).symm, e99, hF99⟩
theorem c8_rolled {s : Sn} {c c8 : Nat} {x y : Int32} (hW : Wq (s.1 (41, 0, 0)) c c8) : Ca (d + 6) MX8_rolled [vR 40 0 0, vI x, vI y] (hN s) (Pv fun z t => z = rlA (s.1 (41, 0, 0)) c x y ∧ t.1 (41, 0, 0) = (s.1 (41, 0, 0)) ∧ Fr XB s t) := by
  change Wp _ _ 0 [some _, some _, some _, none, none] [] _ _
  have hc := hW.2.1
  refine wp_aload_n dX8_rolled_0 rfl rfl ?_
  refine wp_iload_n dX8_rolled_1 rfl rfl ?_
  refine wn_callV1d dX8_rolled_2 rRX8_103 (rcv_of o40 rfl) (Nat.le_of_ble_eq_true rfl) rfl (Nat.le_of_ble_eq_true rfl) rfl (c8_isLog) ?_
  rw [hW.1]
  refine wp_if_eq_b (t := 18) dX8_rolled_5 rfl rfl (fun h5 => ?_) (fun h5 => ?_)
  · refine wp_ldc dX8_rolled_18 kRX8_83 rfl ?_
    refine wp_iret dX8_rolled_20 rfl rfl ?_
    exact ⟨_, _, rfl, rfl, (if_neg (fun z => h5 z.1)).symm, rfl, Fr.rf⟩
  · obtain ⟨g, hg, rfl⟩ := log_nat hc h5
    have hg12 : g < 12 := by omega
    refine wp_iload_n dX8_rolled_8 rfl rfl ?_
    refine wp_iconst (v := 1) dX8_rolled_9 (by decide) rfl ?_
    refine wp_bipush (v := 40) dX8_rolled_10 (by decide) rfl ?_
    refine wn_callS3d dX8_rolled_12 rRX8_75 (Nat.le_of_ble_eq_true rfl) rfl rfl rfl (Nat.le_of_ble_eq_true rfl) rfl (c8_in) ?_
    refine wp_if_ne_b (t := 21) dX8_rolled_15 rfl rfl (fun h15 => ?_) (fun h15 => ?_)
    · obtain ⟨n, hn1, hn40, rfl⟩ := one_nat (b := 40) (by omega) h15
      refine wp_aload_n dX8_rolled_21 rfl rfl ?_
      refine wp_iload_n dX8_rolled_22 rfl rfl ?_
      refine wp_iconst (v := 3) dX8_rolled_23 (by decide) rfl ?_
      refine wn_callV2d dX8_rolled_24 rRX8_93 (rcv_of o40 rfl) (Nat.le_of_ble_eq_true rfl) rfl rfl (Nat.le_of_ble_eq_true rfl) rfl (c8_of (j := g) (w := 3) hg12 (by decide)) ?_
      refine wp_bipush (v := 13) dX8_rolled_27 (by decide) rfl ?_
      refine wp_icmp_eq (t := 35) dX8_rolled_29 rfl rfl (fun h29 => ?_) (fun h29 => ?_)
      · refine wp_aload_n dX8_rolled_35 rfl rfl ?_
        refine wn_callV0n dX8_rolled_36 rRX8_156 (rcv_of o40 rfl) (Nat.le_of_ble_eq_true rfl)  (Nat.le_of_ble_eq_true rfl) rfl (c8_thinks rfl) (fun s36 hq36 => ?_)
        obtain ⟨hB14, hF14⟩ := hq36
        have e14 := hF14.1 (41, 0, 0) (by decide)
        refine wp_ldc dX8_rolled_39 kRX8_149 rfl ?_
        refine wp_istore_n (l' := [_, _, _, some _, _]) dX8_rolled_41 rfl rfl ?_
        refine wp_iload_n dX8_rolled_42 rfl rfl ?_
        refine wp_iconst (v := 1) dX8_rolled_43 (by decide) rfl ?_
        refine wp_isub dX8_rolled_44 rfl ?_
        refine wp_istore (l' := [_, _, _, _, some _]) dX8_rolled_45 rfl rfl ?_
        rw [rlA_y ⟨h5, h15⟩ hg12 hn40 h29]
        exact l8_rl hW hg12 hn40 n (Nat.le_refl _) rfl _ e14 hB14 (hF14.wd X3_B)
      · refine wp_ldc dX8_rolled_32 kRX8_127 rfl ?_
        refine wp_iret dX8_rolled_34 rfl rfl ?_
        exact ⟨_, _, rfl, rfl, (rlA_o ⟨h5, h15⟩ hg12 hn40 h29).symm, rfl, Fr.rf⟩
    · refine wp_ldc dX8_rolled_18 kRX8_83 rfl ?_
      refine wp_iret dX8_rolled_20 rfl rfl ?_
      exact ⟨_, _, rfl, rfl, (if_neg (fun z => h15 z.2)).symm, rfl, Fr.rf⟩
theorem RVL.XT3 {s t : Sn} {f : Fl} {c c8 : Nat} (h : RVL s 2 f c c8) (hF : FW (XT 3) (fun a => a = 3) s t) : RVL t 2 f c c8 := h.cg hF (fun r hx => ⟨fun z => by have := hx.1; omega, fun z => by have := hx.2; omega⟩) (by decide)
theorem RVL.XR3 {s t : Sn} {f : Fl} {c c8 : Nat} (h : RVL s 2 f c c8) (hF : FQ (XR 3) s t) : RVL t 2 f c c8 := h.cg (I := fun _ => False) hF.fw (fun r hx => ⟨fun z => by rcases hx with hx | hx <;> omega, fun z => by rcases hx with hx | hx <;> omega⟩) (fun z => z)
theorem q13 {g : Nat} : XQ (12, 3, g) := Or.inr ⟨(by decide : 2 ≤ 3), Or.inr (Or.inr (Or.inr (Or.inr (Or.inl rfl))))⟩
theorem l7_rl {s : Sn} {f : Fl} {c c8 g n : Nat} (hW : Wr f c c8) (hg : g < c) (hg12 : g < 12) (hn : n ≤ 40) (h13 : f (45 + 5 * g + 3) = 13) : ∀ k, k ≤ n → ∀ s1 : Sn, RVL s1 2 (weks k f) c c8 → FH s s1 → Wp (d + 6) MX7_rolled 54 [some (vR 10 0 0), some (vI (nI g)), some (vI (nI n)), some (vI (lat (rlP f g n) k)), some (vI (nI k))] [] (hN s1) (Pv fun z t => z = lat (rlP f g n) n ∧ FH s t) := by
  refine ind_up (fun k hk ih => ?_)
  intro s1 h1 hF
  have hWk := Wr.weks k _ hW
  have h13k := weks_13 k _ h13
  refine wp_iload dX7_rolled_54 rfl rfl ?_
  refine wp_iload_n dX7_rolled_56 rfl rfl ?_
  refine wp_icmp_ge (t := 128) dX7_rolled_57 rfl rfl (fun h57 => ?_) (fun h57 => ?_)
  · have hk2 : k = n := by have := (nI_leI (by omega) (by omega)).mp h57; omega
    subst hk2
    refine wp_iload_n dX7_rolled_128 rfl rfl ?_
    refine wp_iret dX7_rolled_129 rfl rfl ?_
    exact ⟨_, _, rfl, rfl, rfl, hF⟩
  · have hl : k < n := by have := mt (nI_leI (by omega) (by omega)).mpr h57; omega
    refine wp_aload_n dX7_rolled_60 rfl rfl ?_
    refine wn_getR dX7_rolled_61 fRX7_22 o10 rfl rfl rfl ?_
    refine wp_aload_n dX7_rolled_64 rfl rfl ?_
    refine wn_getR dX7_rolled_65 fRX7_19 o10 rfl rfl rfl ?_
    refine wn_callV1n dX7_rolled_68 rRX7_200 (rcv_of (o11 (by decide)) rfl) (Nat.le_of_ble_eq_true rfl) rfl (Nat.le_of_ble_eq_true rfl) rfl (c3_takes (i := 3) (j := 2) (by decide) (by decide) (by decide) h1 hW.1.2.2.2.1) (fun s68 hq68 => ?_)
    obtain ⟨h68, hF68⟩ := hq68
    refine wp_aload_n dX7_rolled_71 rfl rfl ?_
    refine wn_getR dX7_rolled_72 fRX7_22 o10 rfl rfl rfl ?_
    refine wn_getR dX7_rolled_75 fRX7_80 (o11 (by decide)) rfl rfl rfl ?_
    refine wp_iload_n dX7_rolled_78 rfl rfl ?_
    refine wn_aald13 dX7_rolled_79 (by decide) (nIx rfl (by omega)) hg12 rfl ?_
    refine wp_iconst (v := 0) dX7_rolled_80 (by decide) rfl ?_
    refine wn_putI dX7_rolled_81 fRX7_95 (o12 (by decide) hg12) rfl rfl rfl ?_
    have h81 := h68.up (h68.1.rc hg (v := 0) (by rw [h13k]; decide) (by decide)) (by omega) t12
    have hF81 : FH s (sI s68 (12, 3, g) 3 0) := (hF.tr (hF68.wd (XT_Q (by decide)) (fun r z => by omega))).pt q13
    have h281 : RVL (sI s68 (12, 3, g) 3 0) 2 (weks k f) c c8 := (h1.XT3 hF68).XR3 (FQ.rf.pt (Or.inr ⟨rfl, Or.inr (Or.inl rfl)⟩))
    refine wp_aload_n dX7_rolled_84 rfl rfl ?_
    refine wn_getR dX7_rolled_85 fRX7_22 o10 rfl rfl rfl ?_
    refine wp_iload_n dX7_rolled_88 rfl rfl ?_
    refine wp_iload dX7_rolled_89 rfl rfl ?_
    refine wp_isub dX7_rolled_91 rfl ?_
    rw [nI_subn (by omega)]
    refine wn_callV1n dX7_rolled_92 rRX7_167 (rcv_of (o11 (by decide)) rfl) (Nat.le_of_ble_eq_true rfl) rfl (Nat.le_of_ble_eq_true rfl) rfl (c3_passWeeks (n := n - k) (by decide) (by omega) h81.1 (rol_W hW hg12) h81.2.1) (fun s92 hq92 => ?_)
    obtain ⟨⟨hV92, hL92⟩, hF92⟩ := hq92
    have h292 := h281.XR3 hF92
    have hF3 : FH s s92 := hF81.tr (hF92.fw.wd (XR_Q (by decide)) (fun r z => z))
    refine wp_aload_n dX7_rolled_95 rfl rfl ?_
    refine wn_getR dX7_rolled_96 fRX7_22 o10 rfl rfl rfl ?_
    refine wn_getR dX7_rolled_99 fRX7_80 (o11 (by decide)) rfl rfl rfl ?_
    refine wp_iload_n dX7_rolled_102 rfl rfl ?_
    refine wn_aald13 dX7_rolled_103 (by decide) (nIx rfl (by omega)) hg12 rfl ?_
    refine wn_getI dX7_rolled_104 fRX7_95 (o12 (by decide) hg12) rfl rfl ?_
    have r104 : s92.1 (12, 3, g) 3 = weks (n - k) (rol f g k) (45 + 5 * g + 3) := hV92.1.lg (by rw [show cn (weks (n - k) (rol f g k)) = c from (Wr.weks (n - k) _ (rol_W hW hg12)).1.cn]; exact hg) hg12 (by decide)
    refine wp_bipush (v := 12) dX7_rolled_107 (by decide) rfl ?_
    refine wp_icmp_ne (t := 115) dX7_rolled_109 rfl rfl (fun h109 => ?_) (fun h109 => ?_)
    · refine wp_aload_n dX7_rolled_115 rfl rfl ?_
      refine wn_getR dX7_rolled_116 fRX7_19 o10 rfl rfl rfl ?_
      refine wn_callV0n dX7_rolled_119 rRX7_189 (rcv_of (o11 (by decide)) rfl) (Nat.le_of_ble_eq_true rfl)  (Nat.le_of_ble_eq_true rfl) rfl (c3_weekQ (by decide) (by decide) h292 hWk) (fun s119 hq119 => ?_)
      obtain ⟨h119, hF119⟩ := hq119
      refine wp_iinc (l' := [_, _, _, _, some _]) (v := 1) dX7_rolled_122 rfl (by decide) rfl rfl ?_
      refine wp_goto (t := 54) dX7_rolled_125 rfl ?_
      rw [nI_1]
      have h := ih hl _ (by rw [← weks_s]; exact h119) (hF3.tr hF119)
      rw [lat, if_neg (show ¬ rlP f g n k = true from fun z => h109 (by rw [r104]; exact of_decide_eq_true z))] at h
      exact h
    · refine wp_iload dX7_rolled_112 rfl rfl ?_
      refine wp_istore_n (l' := [_, _, _, some _, _]) dX7_rolled_114 rfl rfl ?_
      refine wp_aload_n dX7_rolled_115 rfl rfl ?_
      refine wn_getR dX7_rolled_116 fRX7_19 o10 rfl rfl rfl ?_
      refine wn_callV0n dX7_rolled_119 rRX7_189 (rcv_of (o11 (by decide)) rfl) (Nat.le_of_ble_eq_true rfl)  (Nat.le_of_ble_eq_true rfl) rfl (c3_weekQ (by decide) (by decide) h292 hWk) (fun s119 hq119 => ?_)
      obtain ⟨h119, hF119⟩ := hq119
      refine wp_iinc (l' := [_, _, _, _, some _]) (v := 1) dX7_rolled_122 rfl (by decide) rfl rfl ?_
      refine wp_goto (t := 54) dX7_rolled_125 rfl ?_
      rw [nI_1]
      have h := ih hl _ (by rw [← weks_s]; exact h119) (hF3.tr hF119)
      rw [lat, if_pos (show rlP f g n k = true from decide_eq_true (by rw [← r104]; exact h109))] at h
      exact h
theorem c7_rolled {s : Sn} {f : Fl} {c c8 : Nat} {x y : Int32} (h : RVL s 0 f c c8) (hW : Wr f c c8) : Ca (d + 6) MX7_rolled [vR 10 0 0, vI x, vI y] (hN s) (Pv fun z t => z = rlA f c x y ∧ FH s t) := by
  change Wp _ _ 0 [some _, some _, some _, none, none] [] _ _
  have hc := hW.1.2.1
  have hlc : s.1 (11, 0, 0) 6 = nI c := (h.1.1.sc 1 (by decide)).trans hW.1.1
  have hcn : cn f = c := hW.1.cn
  refine wp_aload_n dX7_rolled_0 rfl rfl ?_
  refine wn_getR dX7_rolled_1 fRX7_10 o10 rfl rfl rfl ?_
  refine wp_iload_n dX7_rolled_4 rfl rfl ?_
  refine wn_callV1d dX7_rolled_5 rRX7_77 (rcv_of (o11 (by decide)) rfl) (Nat.le_of_ble_eq_true rfl) rfl (Nat.le_of_ble_eq_true rfl) rfl (c3_hasLog (by decide)) ?_
  refine wp_if_eq_b (t := 21) dX7_rolled_8 rfl rfl (fun h8 => ?_) (fun h8 => ?_)
  · refine wp_ldc dX7_rolled_21 kRX7_68 rfl ?_
    refine wp_iret dX7_rolled_23 rfl rfl ?_
    exact ⟨_, _, rfl, rfl, (if_neg (fun z => by obtain ⟨g, hg, rfl⟩ := log_nat hc z.1; exact h8 ⟨by rw [hlc]; exact z.1, (nI_ltI (b := 12) (by omega) (by omega)).mpr (by omega)⟩)).symm, FH.rf⟩
  · obtain ⟨g, hg, rfl⟩ := log_nat hc (by rw [← hlc]; exact h8.1)
    have hg12 : g < 12 := by omega
    have hE : s.1 (12, 0, g) 3 = f (45 + 5 * g + 3) := h.1.1.lg (by omega) hg12 (by decide)
    refine wp_iload_n dX7_rolled_11 rfl rfl ?_
    refine wp_iconst (v := 1) dX7_rolled_12 (by decide) rfl ?_
    refine wp_bipush (v := 40) dX7_rolled_13 (by decide) rfl ?_
    refine wn_callS3d dX7_rolled_15 rRX7_128 (Nat.le_of_ble_eq_true rfl) rfl rfl rfl (Nat.le_of_ble_eq_true rfl) rfl (c7_within) ?_
    refine wp_if_ne_b (t := 24) dX7_rolled_18 rfl rfl (fun h18 => ?_) (fun h18 => ?_)
    · obtain ⟨n, hn1, hn40, rfl⟩ := one_nat (b := 40) (by omega) h18
      refine wp_aload_n dX7_rolled_24 rfl rfl ?_
      refine wn_getR dX7_rolled_25 fRX7_10 o10 rfl rfl rfl ?_
      refine wn_getR dX7_rolled_28 fRX7_80 (o11 (by decide)) rfl rfl rfl ?_
      refine wp_iload_n dX7_rolled_31 rfl rfl ?_
      refine wn_aald13 dX7_rolled_32 (by decide) (nIx rfl (by omega)) hg12 rfl ?_
      refine wn_getI dX7_rolled_33 fRX7_95 (o12 (by decide) hg12) rfl rfl ?_
      refine wp_bipush (v := 13) dX7_rolled_36 (by decide) rfl ?_
      refine wp_icmp_eq (t := 44) dX7_rolled_38 rfl rfl (fun h38 => ?_) (fun h38 => ?_)
      · refine wp_ldc dX7_rolled_44 kRX7_192 rfl ?_
        refine wp_istore_n (l' := [_, _, _, some _, _]) dX7_rolled_46 rfl rfl ?_
        refine wp_aload_n dX7_rolled_47 rfl rfl ?_
        refine wn_callV0n dX7_rolled_48 rRX7_186 (rcv_of o10 rfl) (Nat.le_of_ble_eq_true rfl)  (Nat.le_of_ble_eq_true rfl) rfl (c7_startThought h hW.1.2.2.2.1) (fun s48 hq48 => ?_)
        obtain ⟨h48, hF48⟩ := hq48
        refine wp_iconst (v := 0) dX7_rolled_51 (by decide) rfl ?_
        refine wp_istore (l' := [_, _, _, _, some _]) dX7_rolled_52 rfl rfl ?_
        have h13 : f (45 + 5 * g + 3) = 13 := by rw [← hE]; exact h38
        rw [rlA_y ⟨nat_log hc hg, h18⟩ hg12 hn40 h13]
        exact l7_rl hW hg hg12 hn40 h13 0 (Nat.zero_le _) _ h48 hF48
      · refine wp_ldc dX7_rolled_41 kRX7_127 rfl ?_
        refine wp_iret dX7_rolled_43 rfl rfl ?_
        exact ⟨_, _, rfl, rfl, (rlA_o ⟨nat_log hc hg, h18⟩ hg12 hn40 (by rw [← hE]; exact h38)).symm, FH.rf⟩
    · refine wp_ldc dX7_rolled_21 kRX7_68 rfl ?_
      refine wp_iret dX7_rolled_23 rfl rfl ?_
      exact ⟨_, _, rfl, rfl, (if_neg (fun z => h18 z.2)).symm, FH.rf⟩
end
