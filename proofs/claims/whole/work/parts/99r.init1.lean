/-! THE PURE PART, 98: the small constructors -/
theorem qr11 : ∀ i, i < 4 → qmk (1 + 19 * i) = (11, i, 0) := by decide +kernel
theorem qr13 : ∀ i, i < 4 → qmk (2 + 19 * i) = (13, i, 0) := by decide +kernel
theorem qr14 : ∀ i, i < 4 → qmk (3 + 19 * i) = (14, i, 0) := by decide +kernel
theorem qr15 : ∀ i, i < 4 → qmk (4 + 19 * i) = (15, i, 0) := by decide +kernel
theorem qr16 : ∀ i, i < 4 → qmk (5 + 19 * i) = (16, i, 0) := by decide +kernel
theorem qr17 : ∀ i, i < 4 → qmk (6 + 19 * i) = (17, i, 0) := by decide +kernel
theorem qr18 : ∀ i, i < 4 → qmk (7 + 19 * i) = (18, i, 0) := by decide +kernel
theorem qr12 : ∀ i, i < 4 → ∀ j, j < 12 → qmk (8 + 19 * i + j) = (12, i, j) := by decide +kernel
theorem qr28 : ∀ i, i < 4 → qmk (85 + 2 * i) = (28, i, 0) := by decide +kernel
theorem qr29 : ∀ i, i < 4 → qmk (86 + 2 * i) = (29, i, 0) := by decide +kernel
theorem qr30 : ∀ i, i < 5 → qmk (93 + 4 * i) = (30, i, 0) := by decide +kernel
theorem qr31 : ∀ i, i < 5 → qmk (94 + 4 * i) = (31, i, 0) := by decide +kernel
theorem qr32 : ∀ i, i < 5 → qmk (95 + 4 * i) = (32, i, 0) := by decide +kernel
theorem qr33 : ∀ i, i < 5 → qmk (96 + 4 * i) = (33, i, 0) := by decide +kernel
theorem oG11 {x : Sx} {N i : Nat} (hn : Cn x N) (hi : i < 4) (h : 1 + 19 * i < N) : okr (hs x) (11, i, 0) = true := okG hn (by show 5 ≤ 11; decide) h (qr11 i hi)
theorem oG13 {x : Sx} {N i : Nat} (hn : Cn x N) (hi : i < 4) (h : 2 + 19 * i < N) : okr (hs x) (13, i, 0) = true := okG hn (by show 5 ≤ 13; decide) h (qr13 i hi)
theorem oG14 {x : Sx} {N i : Nat} (hn : Cn x N) (hi : i < 4) (h : 3 + 19 * i < N) : okr (hs x) (14, i, 0) = true := okG hn (by show 5 ≤ 14; decide) h (qr14 i hi)
theorem oG28 {x : Sx} {N i : Nat} (hn : Cn x N) (hi : i < 4) (h : 85 + 2 * i < N) : okr (hs x) (28, i, 0) = true := okG hn (by show 5 ≤ 28; decide) h (qr28 i hi)
theorem oG30 {x : Sx} {N i : Nat} (hn : Cn x N) (hi : i < 5) (h : 93 + 4 * i < N) : okr (hs x) (30, i, 0) = true := okG hn (by show 5 ≤ 30; decide) h (qr30 i hi)
theorem oG31 {x : Sx} {N i : Nat} (hn : Cn x N) (hi : i < 5) (h : 94 + 4 * i < N) : okr (hs x) (31, i, 0) = true := okG hn (by show 5 ≤ 31; decide) h (qr31 i hi)
theorem oG32 {x : Sx} {N i : Nat} (hn : Cn x N) (hi : i < 5) (h : 95 + 4 * i < N) : okr (hs x) (32, i, 0) = true := okG hn (by show 5 ≤ 32; decide) h (qr32 i hi)
theorem oG12 {x : Sx} {N i j : Nat} (hn : Cn x N) (hi : i < 4) (hj : j < 12) (h : 8 + 19 * i + j < N) : okr (hs x) (12, i, j) = true := okG hn (by show 5 ≤ 12; decide) h (qr12 i hi j hj)
theorem oGc {x : Sx} {N : Nat} {r : Rf} (hn : Cn x N) (h : (decide (5 ≤ r.1) && (decide (qoff r < N) && decide (qmk (qoff r) = r))) = true) : okr (hs x) r = true := by
  simp only [Bool.and_eq_true, decide_eq_true_eq] at h
  exact okG hn h.1 h.2.1 h.2.2
theorem df10 : ∀ q, dfv (tyOf 7 q) = if isI 10 q = true then vI 0 else .inr (.inr none)
  | 0 => rfl
  | 1 => rfl
  | 2 => rfl
  | 3 => rfl
  | 4 => rfl
  | 5 => rfl
  | 6 => rfl
  | 7 => rfl
  | 8 => rfl
  | 9 => rfl
  | q + 10 => by
    rw [show isI 10 (q + 10) = true from by show decide (8 ≤ q + 10) = true; exact decide_eq_true (by omega)]
    rfl
theorem df11 : ∀ q, dfv (tyOf 3 q) = if isI 11 q = true then vI 0 else .inr (.inr none)
  | 0 => rfl
  | 1 => rfl
  | 2 => rfl
  | 3 => rfl
  | 4 => rfl
  | 5 => rfl
  | 6 => rfl
  | 7 => rfl
  | 8 => rfl
  | 9 => rfl
  | 10 => rfl
  | 11 => rfl
  | 12 => rfl
  | 13 => rfl
  | 14 => rfl
  | 15 => rfl
  | q + 16 => by
    rw [show isI 11 (q + 16) = true from by show decide (6 ≤ q + 16) = true; exact decide_eq_true (by omega)]
    rfl
theorem df12 : ∀ q, dfv (tyOf 1 q) = if isI 12 q = true then vI 0 else .inr (.inr none)
  | 0 => rfl
  | 1 => rfl
  | 2 => rfl
  | 3 => rfl
  | 4 => rfl
  | q + 5 => rfl
theorem df20 : ∀ q, dfv (tyOf 2 q) = if isI 20 q = true then vI 0 else .inr (.inr none)
  | 0 => rfl
  | 1 => rfl
  | 2 => rfl
  | 3 => rfl
  | 4 => rfl
  | 5 => rfl
  | 6 => rfl
  | 7 => rfl
  | 8 => rfl
  | 9 => rfl
  | 10 => rfl
  | 11 => rfl
  | 12 => rfl
  | 13 => rfl
  | q + 14 => by
    rw [show isI 20 (q + 14) = true from by show decide (3 ≤ q + 14) = true; exact decide_eq_true (by omega)]
    rfl
theorem df21 : ∀ q, dfv (tyOf 6 q) = if isI 21 q = true then vI 0 else .inr (.inr none)
  | 0 => rfl
  | 1 => rfl
  | q + 2 => by
    rw [show isI 21 (q + 2) = true from by show decide (1 ≤ q + 2) = true; exact decide_eq_true (by omega)]
    rfl
theorem df28 : ∀ q, dfv (tyOf 4 q) = if isI 28 q = true then vI 0 else .inr (.inr none)
  | 0 => rfl
  | 1 => rfl
  | 2 => rfl
  | q + 3 => by
    rw [show isI 28 (q + 3) = true from by show decide (1 ≤ q + 3) = true; exact decide_eq_true (by omega)]
    rfl
theorem df30 : ∀ q, dfv (tyOf 5 q) = if isI 30 q = true then vI 0 else .inr (.inr none)
  | 0 => rfl
  | 1 => rfl
  | 2 => rfl
  | 3 => rfl
  | q + 4 => by
    rw [show isI 30 (q + 4) = true from by show decide (2 ≤ q + 4) = true; exact decide_eq_true (by omega)]
    rfl
theorem df31 : ∀ q, dfv (tyOf 1 q) = if isI 31 q = true then vI 0 else .inr (.inr none)
  | 0 => rfl
  | 1 => rfl
  | 2 => rfl
  | 3 => rfl
  | 4 => rfl
  | q + 5 => rfl
theorem df32 : ∀ q, dfv (tyOf 4 q) = if isI 32 q = true then vI 0 else .inr (.inr none)
  | 0 => rfl
  | 1 => rfl
  | 2 => rfl
  | q + 3 => by
    rw [show isI 32 (q + 3) = true from by show decide (1 ≤ q + 3) = true; exact decide_eq_true (by omega)]
    rfl
theorem df40 : ∀ q, dfv (tyOf 8 q) = if isI 40 q = true then vI 0 else .inr (.inr none)
  | 0 => rfl
  | 1 => rfl
  | 2 => rfl
  | 3 => rfl
  | 4 => rfl
  | 5 => rfl
  | 6 => rfl
  | 7 => rfl
  | 8 => rfl
  | 9 => rfl
  | 10 => rfl
  | 11 => rfl
  | 12 => rfl
  | 13 => rfl
  | 14 => rfl
  | 15 => rfl
  | 16 => rfl
  | 17 => rfl
  | 18 => rfl
  | 19 => rfl
  | 20 => rfl
  | 21 => rfl
  | 22 => rfl
  | 23 => rfl
  | 24 => rfl
  | 25 => rfl
  | 26 => rfl
  | 27 => rfl
  | 28 => rfl
  | 29 => rfl
  | 30 => rfl
  | 31 => rfl
  | 32 => rfl
  | q + 33 => rfl
theorem zz11 {xs : Nat → Int32} {i j k : Nat} (h : k ∉ [9, 15]) : n0 xs (11, i, j) k = 0 := by
  show (if k = 9 then (3 : Int32) else if k = 15 then (1 : Int32) else 0) = 0
  rw [if_neg (fun e => h (by rw [e]; decide)), if_neg (fun e => h (by rw [e]; decide))]
theorem zz12 {xs : Nat → Int32} {i j k : Nat} (h : k ∉ [2]) : n0 xs (12, i, j) k = 0 := by
  show (if k = 2 then (1 : Int32) else 0) = 0
  rw [if_neg (fun e => h (by rw [e]; decide))]
theorem zz20 {xs : Nat → Int32} {i j k : Nat} (h : k ∉ [11]) : n0 xs (20, i, j) k = 0 := by
  show (if k = 11 then (1 : Int32) else 0) = 0
  rw [if_neg (fun e => h (by rw [e]; decide))]
theorem zz28 {xs : Nat → Int32} {i j k : Nat} (h : k ∉ [1]) : n0 xs (28, i, j) k = 0 := by
  show (if k = 1 then (-1 : Int32) else 0) = 0
  rw [if_neg (fun e => h (by rw [e]; decide))]
theorem zz31 {xs : Nat → Int32} {i j k : Nat} (h : k ∉ [2]) : n0 xs (31, i, j) k = 0 := by
  show (if k = 2 then (1 : Int32) else 0) = 0
  rw [if_neg (fun e => h (by rw [e]; decide))]
theorem zz32 {xs : Nat → Int32} {i j k : Nat} (h : k ∉ [1]) : n0 xs (32, i, j) k = 0 := by
  show (if k = 1 then (-1 : Int32) else 0) = 0
  rw [if_neg (fun e => h (by rw [e]; decide))]
theorem zz14 {xs : Nat → Int32} {i k : Nat} (h : ¬ k < 12) : n0 xs (14, i, 0) k = 0 := if_neg h
theorem zz12v {xs : Nat → Int32} {k : Nat} (h : k < 12) : (4 : Int32) = n0 xs (14, 0, 0) k := (if_pos h).symm
theorem yy10 {i k : Nat} (h : k ∉ ([0, 1, 2, 3, 4, 5, 6, 7] : List Nat)) : rfs (fun _ _ => none) (10, i, 0) k = none := by
  match k, h with
  | 0, h => exact absurd (by decide) h
  | 1, h => exact absurd (by decide) h
  | 2, h => exact absurd (by decide) h
  | 3, h => exact absurd (by decide) h
  | 4, h => exact absurd (by decide) h
  | 5, h => exact absurd (by decide) h
  | 6, h => exact absurd (by decide) h
  | 7, h => exact absurd (by decide) h
  | k + 8, _ => rfl
theorem yy11 {i k : Nat} (h : k ∉ ([0, 1, 2, 3, 4, 5] : List Nat)) : rfs (fun _ _ => none) (11, i, 0) k = none := by
  match k, h with
  | 0, h => exact absurd (by decide) h
  | 1, h => exact absurd (by decide) h
  | 2, h => exact absurd (by decide) h
  | 3, h => exact absurd (by decide) h
  | 4, h => exact absurd (by decide) h
  | 5, h => exact absurd (by decide) h
  | k + 6, _ => rfl
theorem yy20 {i k : Nat} (h : k ∉ ([0, 1, 2] : List Nat)) : rfs (fun _ _ => none) (20, i, 0) k = none := by
  match k, h with
  | 0, h => exact absurd (by decide) h
  | 1, h => exact absurd (by decide) h
  | 2, h => exact absurd (by decide) h
  | k + 3, _ => rfl
theorem yy21 {i k : Nat} (h : k ∉ ([0] : List Nat)) : rfs (fun _ _ => none) (21, i, 0) k = none := by
  match k, h with
  | 0, h => exact absurd (by decide) h
  | k + 1, _ => rfl
theorem yy28 {i k : Nat} (h : k ∉ ([0] : List Nat)) : rfs (fun _ _ => none) (28, i, 0) k = none := by
  match k, h with
  | 0, h => exact absurd (by decide) h
  | k + 1, _ => rfl
theorem yy30 {i k : Nat} (h : k ∉ ([0, 1] : List Nat)) : rfs (fun _ _ => none) (30, i, 0) k = none := by
  match k, h with
  | 0, h => exact absurd (by decide) h
  | 1, h => exact absurd (by decide) h
  | k + 2, _ => rfl
theorem yy32 {i k : Nat} (h : k ∉ ([0] : List Nat)) : rfs (fun _ _ => none) (32, i, 0) k = none := by
  match k, h with
  | 0, h => exact absurd (by decide) h
  | k + 1, _ => rfl
theorem yy40 {i k : Nat} (h : k ∉ ([0, 1, 2, 4, 5, 13, 14, 15, 18, 20, 21, 22, 23, 24, 25, 26, 27, 28, 29, 30, 31] : List Nat)) : rfs (fun _ _ => none) (40, i, 0) k = none := by
  match k, h with
  | 0, h => exact absurd (by decide) h
  | 1, h => exact absurd (by decide) h
  | 2, h => exact absurd (by decide) h
  | 3, _ => exact rfl
  | 4, h => exact absurd (by decide) h
  | 5, h => exact absurd (by decide) h
  | 6, _ => exact rfl
  | 7, _ => exact rfl
  | 8, _ => exact rfl
  | 9, _ => exact rfl
  | 10, _ => exact rfl
  | 11, _ => exact rfl
  | 12, _ => exact rfl
  | 13, h => exact absurd (by decide) h
  | 14, h => exact absurd (by decide) h
  | 15, h => exact absurd (by decide) h
  | 16, _ => exact rfl
  | 17, _ => exact rfl
  | 18, h => exact absurd (by decide) h
  | 19, _ => exact rfl
  | 20, h => exact absurd (by decide) h
  | 21, h => exact absurd (by decide) h
  | 22, h => exact absurd (by decide) h
  | 23, h => exact absurd (by decide) h
  | 24, h => exact absurd (by decide) h
  | 25, h => exact absurd (by decide) h
  | 26, h => exact absurd (by decide) h
  | 27, h => exact absurd (by decide) h
  | 28, h => exact absurd (by decide) h
  | 29, h => exact absurd (by decide) h
  | 30, h => exact absurd (by decide) h
  | 31, h => exact absurd (by decide) h
  | k + 32, _ => rfl
theorem yy18 {i k : Nat} : rfs (fun _ _ => none) (18, i, 0) k = none := by
  show (if k < 14 ∧ 0 = 0 then Option.map (fun n => ((34, n, 0) : Rf)) none else none) = none
  split <;> rfl
theorem yy13 {i k : Nat} (h : ¬ k < 12) : rfs (fun _ _ => none) (13, i, 0) k = none := if_neg h
theorem yy25 {i k : Nat} (h : ¬ k < 4) : rfs (fun _ _ => none) (25, i, 0) k = none := if_neg h
theorem yy26 {i k : Nat} (h : ¬ k < 5) : rfs (fun _ _ => none) (26, i, 0) k = none := if_neg h
theorem g_log12 {x : Sx} {L : Nat} {xs : Nat → Int32} {A B : Pp} {d i j : Nat} (hi : i < 4) (hj : j < 12) (hn : Cn x (9 + 19 * i + j)) (hG : Ge L xs (lj A (12, i, j) [2]) B x) : Ca (d + 1) MX1_init [vR 12 i j] (hs x) (Pg L xs A B (9 + 19 * i + j)) := by
  change Wp _ _ 0 [some _] [] _ _
  refine wp_aload_n dX1_init_0 rfl rfl ?_
  refine wp_objInit dX1_init_1 rRX1_3 (show 5 ≤ 12 by decide) (by omega) (Nat.le_of_ble_eq_true rfl) rfl ?_
  refine wp_aload_n dX1_init_4 rfl rfl ?_
  refine wp_iconst (v := 0) dX1_init_5 (by decide) rfl ?_
  refine wg_putI (A' := (lj A (12, i, j) [2])) dX1_init_6 fRX1_9 (oG12 hn hi hj (by omega)) rfl rfl hn hG rfl (fun _ _ h _ => h) rfl (fun y hG hn => ?_)
  refine wp_aload_n dX1_init_9 rfl rfl ?_
  refine wp_iconst (v := 0) dX1_init_10 (by decide) rfl ?_
  refine wg_putI (A' := (lj A (12, i, j) [2])) dX1_init_11 fRX1_15 (oG12 hn hi hj (by omega)) rfl rfl hn hG rfl (fun _ _ h _ => h) rfl (fun y hG hn => ?_)
  refine wp_aload_n dX1_init_14 rfl rfl ?_
  refine wp_iconst (v := 1) dX1_init_15 (by decide) rfl ?_
  refine wg_putI (A' := (lj A (12, i, j) [])) dX1_init_16 fRX1_18 (oG12 hn hi hj (by omega)) rfl rfl hn hG rfl lj_tl rfl (fun y hG hn => ?_)
  replace hG := hG.mo (A' := A) (B' := B) (fun _ _ h => lj_nil h) (fun _ _ h => h)
  refine wp_aload_n dX1_init_19 rfl rfl ?_
  refine wp_iconst (v := 0) dX1_init_20 (by decide) rfl ?_
  refine wg_putI (A' := A) dX1_init_21 fRX1_21 (oG12 hn hi hj (by omega)) rfl rfl hn hG rfl (fun _ _ h _ => h) rfl (fun y hG hn => ?_)
  refine wp_aload_n dX1_init_24 rfl rfl ?_
  refine wp_iconst (v := 0) dX1_init_25 (by decide) rfl ?_
  refine wg_putI (A' := A) dX1_init_26 fRX1_24 (oG12 hn hi hj (by omega)) rfl rfl hn hG rfl (fun _ _ h _ => h) rfl (fun y hG hn => ?_)
  refine wp_ret dX1_init_29 rfl ?_
  exact ⟨rfl, y, rfl, hG, hn⟩
theorem g_log31 {x : Sx} {L : Nat} {xs : Nat → Int32} {A B : Pp} {d i : Nat} (hi : i < 5) (hn : Cn x (95 + 4 * i)) (hG : Ge L xs (lj A (31, i, 0) [2]) B x) : Ca (d + 1) MX1_init [vR 31 i 0] (hs x) (Pg L xs A B (95 + 4 * i)) := by
  change Wp _ _ 0 [some _] [] _ _
  refine wp_aload_n dX1_init_0 rfl rfl ?_
  refine wp_objInit dX1_init_1 rRX1_3 (show 5 ≤ 31 by decide) (by omega) (Nat.le_of_ble_eq_true rfl) rfl ?_
  refine wp_aload_n dX1_init_4 rfl rfl ?_
  refine wp_iconst (v := 0) dX1_init_5 (by decide) rfl ?_
  refine wg_putI (A' := (lj A (31, i, 0) [2])) dX1_init_6 fRX1_9 (oG31 hn hi (by omega)) rfl rfl hn hG rfl (fun _ _ h _ => h) rfl (fun y hG hn => ?_)
  refine wp_aload_n dX1_init_9 rfl rfl ?_
  refine wp_iconst (v := 0) dX1_init_10 (by decide) rfl ?_
  refine wg_putI (A' := (lj A (31, i, 0) [2])) dX1_init_11 fRX1_15 (oG31 hn hi (by omega)) rfl rfl hn hG rfl (fun _ _ h _ => h) rfl (fun y hG hn => ?_)
  refine wp_aload_n dX1_init_14 rfl rfl ?_
  refine wp_iconst (v := 1) dX1_init_15 (by decide) rfl ?_
  refine wg_putI (A' := (lj A (31, i, 0) [])) dX1_init_16 fRX1_18 (oG31 hn hi (by omega)) rfl rfl hn hG rfl lj_tl rfl (fun y hG hn => ?_)
  replace hG := hG.mo (A' := A) (B' := B) (fun _ _ h => lj_nil h) (fun _ _ h => h)
  refine wp_aload_n dX1_init_19 rfl rfl ?_
  refine wp_iconst (v := 0) dX1_init_20 (by decide) rfl ?_
  refine wg_putI (A' := A) dX1_init_21 fRX1_21 (oG31 hn hi (by omega)) rfl rfl hn hG rfl (fun _ _ h _ => h) rfl (fun y hG hn => ?_)
  refine wp_aload_n dX1_init_24 rfl rfl ?_
  refine wp_iconst (v := 0) dX1_init_25 (by decide) rfl ?_
  refine wg_putI (A' := A) dX1_init_26 fRX1_24 (oG31 hn hi (by omega)) rfl rfl hn hG rfl (fun _ _ h _ => h) rfl (fun y hG hn => ?_)
  refine wp_ret dX1_init_29 rfl ?_
  exact ⟨rfl, y, rfl, hG, hn⟩
theorem g_row28 {x : Sx} {L : Nat} {xs : Nat → Int32} {A B : Pp} {d i : Nat} (hi : i < 4) (hn : Cn x (86 + 2 * i)) (hG : Ge L xs (lj A (28, i, 0) [1]) (lj B (28, i, 0) [0]) x) : Ca (d + 1) MX4_init [vR 28 i 0] (hs x) (Pg L xs A B (87 + 2 * i)) := by
  change Wp _ _ 0 [some _] [] _ _
  refine wp_aload_n dX4_init_0 rfl rfl ?_
  refine wp_objInit dX4_init_1 rRX4_3 (show 5 ≤ 28 by decide) (by omega) (Nat.le_of_ble_eq_true rfl) rfl ?_
  refine wp_aload_n dX4_init_4 rfl rfl ?_
  refine wp_bipush (v := 24) dX4_init_5 (by decide) rfl ?_
  refine wg_newarr (A' := (lj A (28, i, 0) [1])) (B' := (lj B (28, i, 0) [0])) (N' := 87 + 2 * i) (r := (29, i, 0)) (M := 24) dX4_init_7 (by decide) hn (qr29 i hi) rfl ⟨by decide, by decide⟩ (by decide) (by decide +kernel) rfl rfl hG (fun _ _ h => h) (fun _ _ => rfl) (fun _ _ h => h) (fun _ _ => rfl) (by omega) rfl (fun y hG hn => ?_)
  refine wg_putR (B' := (lj B (28, i, 0) [])) dX4_init_9 fRX4_9 (oG28 hn hi (by omega)) rfl rfl hn hG rfl lj_tl rfl (fun y hG hn => ?_)
  replace hG := hG.mo (A' := (lj A (28, i, 0) [1])) (B' := B) (fun _ _ h => h) (fun _ _ h => lj_nil h)
  refine wp_aload_n dX4_init_12 rfl rfl ?_
  refine wp_iconst (v := (-1)) dX4_init_13 (by decide) rfl ?_
  refine wg_putI (A' := (lj A (28, i, 0) [])) dX4_init_14 fRX4_15 (oG28 hn hi (by omega)) rfl rfl hn hG rfl lj_tl rfl (fun y hG hn => ?_)
  replace hG := hG.mo (A' := A) (B' := B) (fun _ _ h => lj_nil h) (fun _ _ h => h)
  refine wp_aload_n dX4_init_17 rfl rfl ?_
  refine wp_iconst (v := 0) dX4_init_18 (by decide) rfl ?_
  refine wg_putI (A' := A) dX4_init_19 fRX4_19 (oG28 hn hi (by omega)) rfl rfl hn hG rfl (fun _ _ h _ => h) rfl (fun y hG hn => ?_)
  refine wp_ret dX4_init_22 rfl ?_
  exact ⟨rfl, y, rfl, hG, hn⟩
theorem g_row32 {x : Sx} {L : Nat} {xs : Nat → Int32} {A B : Pp} {d i : Nat} (hi : i < 5) (hn : Cn x (96 + 4 * i)) (hG : Ge L xs (lj A (32, i, 0) [1]) (lj B (32, i, 0) [0]) x) : Ca (d + 1) MX4_init [vR 32 i 0] (hs x) (Pg L xs A B (97 + 4 * i)) := by
  change Wp _ _ 0 [some _] [] _ _
  refine wp_aload_n dX4_init_0 rfl rfl ?_
  refine wp_objInit dX4_init_1 rRX4_3 (show 5 ≤ 32 by decide) (by omega) (Nat.le_of_ble_eq_true rfl) rfl ?_
  refine wp_aload_n dX4_init_4 rfl rfl ?_
  refine wp_bipush (v := 24) dX4_init_5 (by decide) rfl ?_
  refine wg_newarr (A' := (lj A (32, i, 0) [1])) (B' := (lj B (32, i, 0) [0])) (N' := 97 + 4 * i) (r := (33, i, 0)) (M := 24) dX4_init_7 (by decide) hn (qr33 i hi) rfl ⟨by decide, by decide⟩ (by decide) (by decide +kernel) rfl rfl hG (fun _ _ h => h) (fun _ _ => rfl) (fun _ _ h => h) (fun _ _ => rfl) (by omega) rfl (fun y hG hn => ?_)
  refine wg_putR (B' := (lj B (32, i, 0) [])) dX4_init_9 fRX4_9 (oG32 hn hi (by omega)) rfl rfl hn hG rfl lj_tl rfl (fun y hG hn => ?_)
  replace hG := hG.mo (A' := (lj A (32, i, 0) [1])) (B' := B) (fun _ _ h => h) (fun _ _ h => lj_nil h)
  refine wp_aload_n dX4_init_12 rfl rfl ?_
  refine wp_iconst (v := (-1)) dX4_init_13 (by decide) rfl ?_
  refine wg_putI (A' := (lj A (32, i, 0) [])) dX4_init_14 fRX4_15 (oG32 hn hi (by omega)) rfl rfl hn hG rfl lj_tl rfl (fun y hG hn => ?_)
  replace hG := hG.mo (A' := A) (B' := B) (fun _ _ h => lj_nil h) (fun _ _ h => h)
  refine wp_aload_n dX4_init_17 rfl rfl ?_
  refine wp_iconst (v := 0) dX4_init_18 (by decide) rfl ?_
  refine wg_putI (A' := A) dX4_init_19 fRX4_19 (oG32 hn hi (by omega)) rfl rfl hn hG rfl (fun _ _ h _ => h) rfl (fun y hG hn => ?_)
  refine wp_ret dX4_init_22 rfl ?_
  exact ⟨rfl, y, rfl, hG, hn⟩
theorem g_slot {x : Sx} {L : Nat} {xs : Nat → Int32} {A B : Pp} {d i : Nat} (hi : i < 5) (hn : Cn x (94 + 4 * i)) (hG : Ge L xs A (lj B (30, i, 0) [0, 1]) x) : Ca (d + 2) MX5_init [vR 30 i 0] (hs x) (Pg L xs A B (97 + 4 * i)) := by
  change Wp _ _ 0 [some _] [] _ _
  refine wp_aload_n dX5_init_0 rfl rfl ?_
  refine wp_objInit dX5_init_1 rRX5_3 (show 5 ≤ 30 by decide) (by omega) (Nat.le_of_ble_eq_true rfl) rfl ?_
  refine wp_aload_n dX5_init_4 rfl rfl ?_
  refine wg_new (A' := (lj A (31, i, 0) [2])) (B' := (lj B (30, i, 0) [0, 1])) (N' := 95 + 4 * i) (r := (31, i, 0)) dX5_init_5 nRX5_9 hn (qr31 i hi) rfl df31 (by decide) rfl hG (fun _ _ h => Or.inl h) (fun k hk => zz31 (fun z => hk (Or.inr ⟨rfl, z⟩))) (fun _ _ h => h) (fun _ _ => rfl) (by omega) rfl (fun y hG hn => ?_)
  refine wp_dup dX5_init_8 rfl rfl ?_
  refine wg_init (A := A) (B := (lj B (30, i, 0) [0, 1])) (N := 95 + 4 * i) dX5_init_9 rRX5_11 (show 5 ≤ 31 by decide) (Nat.le_of_ble_eq_true rfl) (Nat.le_of_ble_eq_true rfl) rfl (g_log31 (d := d) hi hn hG) (fun y hG hn => ?_)
  refine wg_putR (B' := (lj B (30, i, 0) [1])) dX5_init_12 fRX5_12 (oG30 hn hi (by omega)) rfl rfl hn hG rfl lj_tl rfl (fun y hG hn => ?_)
  refine wp_aload_n dX5_init_15 rfl rfl ?_
  refine wg_new (A' := (lj A (32, i, 0) [1])) (B' := (lj (lj B (30, i, 0) [1]) (32, i, 0) [0])) (N' := 96 + 4 * i) (r := (32, i, 0)) dX5_init_16 nRX5_18 hn (qr32 i hi) rfl df32 (by decide) rfl hG (fun _ _ h => Or.inl h) (fun k hk => zz32 (fun z => hk (Or.inr ⟨rfl, z⟩))) (fun _ _ h => Or.inl h) (fun k hk => yy32 (fun z => hk (Or.inr ⟨rfl, z⟩))) (by omega) rfl (fun y hG hn => ?_)
  refine wp_dup dX5_init_19 rfl rfl ?_
  refine wg_init (A := A) (B := (lj B (30, i, 0) [1])) (N := 97 + 4 * i) dX5_init_20 rRX5_20 (show 5 ≤ 32 by decide) (Nat.le_of_ble_eq_true rfl) (Nat.le_of_ble_eq_true rfl) rfl (g_row32 (d := d) hi hn hG) (fun y hG hn => ?_)
  refine wg_putR (B' := (lj B (30, i, 0) [])) dX5_init_23 fRX5_21 (oG30 hn hi (by omega)) rfl rfl hn hG rfl lj_tl rfl (fun y hG hn => ?_)
  replace hG := hG.mo (A' := A) (B' := B) (fun _ _ h => h) (fun _ _ h => lj_nil h)
  refine wp_aload_n dX5_init_26 rfl rfl ?_
  refine wp_iconst (v := 0) dX5_init_27 (by decide) rfl ?_
  refine wg_putI (A' := A) dX5_init_28 fRX5_25 (oG30 hn hi (by omega)) rfl rfl hn hG rfl (fun _ _ h _ => h) rfl (fun y hG hn => ?_)
  refine wp_aload_n dX5_init_31 rfl rfl ?_
  refine wp_iconst (v := 0) dX5_init_32 (by decide) rfl ?_
  refine wg_putI (A' := A) dX5_init_33 fRX5_29 (oG30 hn hi (by omega)) rfl rfl hn hG rfl (fun _ _ h _ => h) rfl (fun y hG hn => ?_)
  refine wp_ret dX5_init_36 rfl ?_
  exact ⟨rfl, y, rfl, hG, hn⟩
theorem g_tape {x : Sx} {L : Nat} {xs : Nat → Int32} {A B : Pp} {d : Nat} (hn : Cn x (79)) (hG : Ge L xs A (lj B (21, 0, 0) [0]) x) : Ca (d + 1) MX6_init [vR 21 0 0] (hs x) (Pg L xs A B (80)) := by
  change Wp _ _ 0 [some _] [] _ _
  refine wp_aload_n dX6_init_0 rfl rfl ?_
  refine wp_objInit dX6_init_1 rRX6_3 (show 5 ≤ 21 by decide) (by omega) (Nat.le_of_ble_eq_true rfl) rfl ?_
  refine wp_aload_n dX6_init_4 rfl rfl ?_
  refine wp_bipush (v := 96) dX6_init_5 (by decide) rfl ?_
  refine wg_newarr (A' := A) (B' := (lj B (21, 0, 0) [0])) (N' := 80) (r := (22, 0, 0)) (M := 96) dX6_init_7 (by decide) hn rfl rfl ⟨by decide, by decide⟩ (by decide) (by decide +kernel) rfl rfl hG (fun _ _ h => h) (fun _ _ => rfl) (fun _ _ h => h) (fun _ _ => rfl) (by omega) rfl (fun y hG hn => ?_)
  refine wg_putR (B' := (lj B (21, 0, 0) [])) dX6_init_9 fRX6_9 (oGc hn (by decide +kernel)) rfl rfl hn hG rfl lj_tl rfl (fun y hG hn => ?_)
  replace hG := hG.mo (A' := A) (B' := B) (fun _ _ h => h) (fun _ _ h => lj_nil h)
  refine wp_aload_n dX6_init_12 rfl rfl ?_
  refine wp_iconst (v := 0) dX6_init_13 (by decide) rfl ?_
  refine wg_putI (A' := A) dX6_init_14 fRX6_15 (oGc hn (by decide +kernel)) rfl rfl hn hG rfl (fun _ _ h _ => h) rfl (fun y hG hn => ?_)
  refine wp_ret dX6_init_17 rfl ?_
  exact ⟨rfl, y, rfl, hG, hn⟩
theorem g_reader {x : Sx} {L : Nat} {xs : Nat → Int32} {A B : Pp} {d : Nat} (hn : Cn x (78)) (hG : Ge L xs (lj A (20, 0, 0) [11]) (lj B (20, 0, 0) [0, 1, 2]) x) : Ca (d + 2) MX2_init [vR 20 0 0] (hs x) (Pg L xs A B (82)) := by
  change Wp _ _ 0 [some _] [] _ _
  refine wp_aload_n dX2_init_0 rfl rfl ?_
  refine wp_objInit dX2_init_1 rRX2_3 (show 5 ≤ 20 by decide) (by omega) (Nat.le_of_ble_eq_true rfl) rfl ?_
  refine wp_aload_n dX2_init_4 rfl rfl ?_
  refine wg_new (A' := (lj A (20, 0, 0) [11])) (B' := (lj (lj B (20, 0, 0) [0, 1, 2]) (21, 0, 0) [0])) (N' := 79) (r := (21, 0, 0)) dX2_init_5 nRX2_9 hn rfl rfl df21 (by decide) rfl hG (fun _ _ h => h) (fun _ _ => rfl) (fun _ _ h => Or.inl h) (fun k hk => yy21 (fun z => hk (Or.inr ⟨rfl, z⟩))) (by omega) rfl (fun y hG hn => ?_)
  refine wp_dup dX2_init_8 rfl rfl ?_
  refine wg_init (A := (lj A (20, 0, 0) [11])) (B := (lj B (20, 0, 0) [0, 1, 2])) (N := 80) dX2_init_9 rRX2_11 (show 5 ≤ 21 by decide) (Nat.le_of_ble_eq_true rfl) (Nat.le_of_ble_eq_true rfl) rfl (g_tape (d := d) hn hG) (fun y hG hn => ?_)
  refine wg_putR (B' := (lj B (20, 0, 0) [1, 2])) dX2_init_12 fRX2_12 (oGc hn (by decide +kernel)) rfl rfl hn hG rfl lj_tl rfl (fun y hG hn => ?_)
  refine wp_aload_n dX2_init_15 rfl rfl ?_
  refine wp_bipush (v := 96) dX2_init_16 (by decide) rfl ?_
  refine wg_newarr (A' := (lj A (20, 0, 0) [11])) (B' := (lj B (20, 0, 0) [1, 2])) (N' := 81) (r := (23, 0, 0)) (M := 96) dX2_init_18 (by decide) hn rfl rfl ⟨by decide, by decide⟩ (by decide) (by decide +kernel) rfl rfl hG (fun _ _ h => h) (fun _ _ => rfl) (fun _ _ h => h) (fun _ _ => rfl) (by omega) rfl (fun y hG hn => ?_)
  refine wg_putR (B' := (lj B (20, 0, 0) [2])) dX2_init_20 fRX2_18 (oGc hn (by decide +kernel)) rfl rfl hn hG rfl lj_tl rfl (fun y hG hn => ?_)
  refine wp_aload_n dX2_init_23 rfl rfl ?_
  refine wp_bipush (v := 96) dX2_init_24 (by decide) rfl ?_
  refine wg_newarr (A' := (lj A (20, 0, 0) [11])) (B' := (lj B (20, 0, 0) [2])) (N' := 82) (r := (24, 0, 0)) (M := 96) dX2_init_26 (by decide) hn rfl rfl ⟨by decide, by decide⟩ (by decide) (by decide +kernel) rfl rfl hG (fun _ _ h => h) (fun _ _ => rfl) (fun _ _ h => h) (fun _ _ => rfl) (by omega) rfl (fun y hG hn => ?_)
  refine wg_putR (B' := (lj B (20, 0, 0) [])) dX2_init_28 fRX2_22 (oGc hn (by decide +kernel)) rfl rfl hn hG rfl lj_tl rfl (fun y hG hn => ?_)
  replace hG := hG.mo (A' := (lj A (20, 0, 0) [11])) (B' := B) (fun _ _ h => h) (fun _ _ h => lj_nil h)
  refine wp_aload_n dX2_init_31 rfl rfl ?_
  refine wp_iconst (v := 0) dX2_init_32 (by decide) rfl ?_
  refine wg_putI (A' := (lj A (20, 0, 0) [11])) dX2_init_33 fRX2_25 (oGc hn (by decide +kernel)) rfl rfl hn hG rfl (fun _ _ h _ => h) rfl (fun y hG hn => ?_)
  refine wp_aload_n dX2_init_36 rfl rfl ?_
  refine wp_iconst (v := 0) dX2_init_37 (by decide) rfl ?_
  refine wg_putI (A' := (lj A (20, 0, 0) [11])) dX2_init_38 fRX2_29 (oGc hn (by decide +kernel)) rfl rfl hn hG rfl (fun _ _ h _ => h) rfl (fun y hG hn => ?_)
  refine wp_aload_n dX2_init_41 rfl rfl ?_
  refine wp_iconst (v := 0) dX2_init_42 (by decide) rfl ?_
  refine wg_putI (A' := (lj A (20, 0, 0) [11])) dX2_init_43 fRX2_32 (oGc hn (by decide +kernel)) rfl rfl hn hG rfl (fun _ _ h _ => h) rfl (fun y hG hn => ?_)
  refine wp_aload_n dX2_init_46 rfl rfl ?_
  refine wp_iconst (v := 0) dX2_init_47 (by decide) rfl ?_
  refine wg_putI (A' := (lj A (20, 0, 0) [11])) dX2_init_48 fRX2_35 (oGc hn (by decide +kernel)) rfl rfl hn hG rfl (fun _ _ h _ => h) rfl (fun y hG hn => ?_)
  refine wp_aload_n dX2_init_51 rfl rfl ?_
  refine wp_iconst (v := 0) dX2_init_52 (by decide) rfl ?_
  refine wg_putI (A' := (lj A (20, 0, 0) [11])) dX2_init_53 fRX2_38 (oGc hn (by decide +kernel)) rfl rfl hn hG rfl (fun _ _ h _ => h) rfl (fun y hG hn => ?_)
  refine wp_aload_n dX2_init_56 rfl rfl ?_
  refine wp_iconst (v := 0) dX2_init_57 (by decide) rfl ?_
  refine wg_putI (A' := (lj A (20, 0, 0) [11])) dX2_init_58 fRX2_41 (oGc hn (by decide +kernel)) rfl rfl hn hG rfl (fun _ _ h _ => h) rfl (fun y hG hn => ?_)
  refine wp_aload_n dX2_init_61 rfl rfl ?_
  refine wp_iconst (v := 0) dX2_init_62 (by decide) rfl ?_
  refine wg_putI (A' := (lj A (20, 0, 0) [11])) dX2_init_63 fRX2_44 (oGc hn (by decide +kernel)) rfl rfl hn hG rfl (fun _ _ h _ => h) rfl (fun y hG hn => ?_)
  refine wp_aload_n dX2_init_66 rfl rfl ?_
  refine wp_iconst (v := 0) dX2_init_67 (by decide) rfl ?_
  refine wg_putI (A' := (lj A (20, 0, 0) [11])) dX2_init_68 fRX2_47 (oGc hn (by decide +kernel)) rfl rfl hn hG rfl (fun _ _ h _ => h) rfl (fun y hG hn => ?_)
  refine wp_aload_n dX2_init_71 rfl rfl ?_
  refine wp_iconst (v := 1) dX2_init_72 (by decide) rfl ?_
  refine wg_putZ (A' := (lj A (20, 0, 0) [])) dX2_init_73 fRX2_50 (oGc hn (by decide +kernel)) rfl rfl (by decide) hn hG rfl lj_tl rfl (fun y hG hn => ?_)
  replace hG := hG.mo (A' := A) (B' := B) (fun _ _ h => lj_nil h) (fun _ _ h => h)
  refine wp_aload_n dX2_init_76 rfl rfl ?_
  refine wp_iconst (v := 0) dX2_init_77 (by decide) rfl ?_
  refine wg_putI (A' := A) dX2_init_78 fRX2_54 (oGc hn (by decide +kernel)) rfl rfl hn hG rfl (fun _ _ h _ => h) rfl (fun y hG hn => ?_)
  refine wp_aload_n dX2_init_81 rfl rfl ?_
  refine wp_iconst (v := 0) dX2_init_82 (by decide) rfl ?_
  refine wg_putI (A' := A) dX2_init_83 fRX2_57 (oGc hn (by decide +kernel)) rfl rfl hn hG rfl (fun _ _ h _ => h) rfl (fun y hG hn => ?_)
  refine wp_ret dX2_init_86 rfl ?_
  exact ⟨rfl, y, rfl, hG, hn⟩
