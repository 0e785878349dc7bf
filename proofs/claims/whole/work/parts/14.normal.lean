/-! THE PURE PART, 3: states in which all has been made -/
/-- numbers; laws of rivers; length of the script, of laws; how many laws; slots -/
abbrev Sn : Type := (Rf → Nat → Int32) × (Nat → Nat → Option Nat) × (Nat × (Nat → Nat)) × Nat × Nat
def rfs (lw : Nat → Nat → Option Nat) : Rf → Nat → Option Rf := fun r k => match r.1 with
  | 2 => some (3, r.2.1, 0)
  | 10 => (match k with
    | 0 => some (11, 0, 0)
    | 1 => some (11, 1, 0)
    | 2 => some (11, 2, 0)
    | 3 => some (11, 3, 0)
    | 4 => some (20, 0, 0)
    | 5 => some (25, 0, 0)
    | 6 => some (26, 0, 0)
    | 7 => some (27, 0, 0)
    | _ => none)
  | 11 => (match k with
    | 0 => some (13, r.2.1, 0)
    | 1 => some (14, r.2.1, 0)
    | 2 => some (15, r.2.1, 0)
    | 3 => some (16, r.2.1, 0)
    | 4 => some (17, r.2.1, 0)
    | 5 => some (18, r.2.1, 0)
    | _ => none)
  | 13 => if k < 12 then some (12, r.2.1, k) else none
  | 18 => if k < 14 ∧ r.2.2 = 0 then (lw r.2.1 k).map (fun n => (34, n, 0)) else none
  | 20 => (match k with
    | 0 => some (21, 0, 0)
    | 1 => some (23, 0, 0)
    | 2 => some (24, 0, 0)
    | _ => none)
  | 21 => (match k with
    | 0 => some (22, 0, 0)
    | _ => none)
  | 25 => if k < 4 then some (28, k, 0) else none
  | 26 => if k < 5 then some (30, k, 0) else none
  | 28 => (match k with
    | 0 => some (29, r.2.1, 0)
    | _ => none)
  | 30 => (match k with
    | 0 => some (31, r.2.1, 0)
    | 1 => some (32, r.2.1, 0)
    | _ => none)
  | 32 => (match k with
    | 0 => some (33, r.2.1, 0)
    | _ => none)
  | 34 => (match k with
    | 2 => some (35, r.2.1, 0)
    | 3 => some (36, r.2.1, 0)
    | _ => none)
  | 40 => (match k with
    | 0 => some (41, 0, 0)
    | 1 => some (41, 1, 0)
    | 2 => some (41, 2, 0)
    | 4 => some (41, 3, 0)
    | 5 => some (41, 4, 0)
    | 13 => some (42, 0, 0)
    | 14 => some (41, 6, 0)
    | 15 => some (41, 7, 0)
    | 18 => some (41, 8, 0)
    | 20 => some (43, 0, 0)
    | 21 => some (41, 10, 0)
    | 22 => some (41, 11, 0)
    | 23 => some (41, 12, 0)
    | 24 => some (41, 13, 0)
    | 25 => some (41, 14, 0)
    | 26 => some (41, 15, 0)
    | 27 => some (41, 16, 0)
    | 28 => some (41, 17, 0)
    | 29 => some (41, 18, 0)
    | 30 => some (41, 19, 0)
    | 31 => some (41, 20, 0)
    | _ => none)
  | _ => none
def mln : List Nat := [1477, 1477, 1477, 105, 96, 0, 4, 96, 96, 0, 96, 4, 4, 4, 96, 5, 5, 5, 120, 24, 60]
def lnf (c : Nat × (Nat → Nat)) : Rf → Nat := fun r => match r.1 with
  | 0 => c.1
  | 1 => 6
  | 3 => slen.getD r.2.1 0
  | 13 => 12
  | 14 => 12
  | 15 => 12
  | 16 => 12
  | 17 => 12
  | 18 => 14
  | 22 => 96
  | 23 => 96
  | 24 => 96
  | 25 => 4
  | 26 => 5
  | 27 => 60
  | 29 => 24
  | 33 => 24
  | 35 => if r.2.2 = 0 then c.2 r.2.1 else 0
  | 36 => if r.2.2 = 0 then max 1 (c.2 r.2.1) else 0
  | 41 => mln.getD r.2.1 0
  | 42 => 12
  | 43 => 10
  | _ => 0
def nm (s : Sn) : Sx := (s.1, rfs s.2.1, lnf s.2.2.1, 135 + 3 * s.2.2.2.1, s.2.2.2.2)
abbrev hN (s : Sn) : St := hs (nm s)
def sI (s : Sn) (r : Rf) (k : Nat) (v : Int32) : Sn := (fun z j => if z = r ∧ j = k then v else s.1 z j, s.2)
def sV (s : Sn) (r : Rf) (f : Nat → Int32) : Sn := (fun z j => if z = r then f j else s.1 z j, s.2)
/-- law n (or none) at a place of a river's row -/
def sW (s : Sn) (i t : Nat) (o : Option Nat) : Sn := (s.1, fun a b => if a = i ∧ b = t then o else s.2.1 a b, s.2.2)
theorem sI_eq {s : Sn} {r : Rf} {k : Nat} {v : Int32} : (sI s r k v).1 r k = v := by unfold sI; dsimp only; rw [if_pos ⟨rfl, rfl⟩]
theorem sI_nk {s : Sn} {r z : Rf} {k j : Nat} {v : Int32} (h : j ≠ k) : (sI s r k v).1 z j = s.1 z j := by unfold sI; dsimp only; rw [if_neg (fun e => h e.2)]
theorem sI_nr {s : Sn} {r z : Rf} {k : Nat} {v : Int32} (h : z ≠ r) : (sI s r k v).1 z = s.1 z := by funext j; unfold sI; dsimp only; rw [if_neg (fun e => h e.1)]
theorem sV_eq {s : Sn} {r : Rf} {f : Nat → Int32} : (sV s r f).1 r = f := by funext j; unfold sV; dsimp only; rw [if_pos rfl]
theorem sV_nr {s : Sn} {r z : Rf} {f : Nat → Int32} (h : z ≠ r) : (sV s r f).1 z = s.1 z := by funext j; unfold sV; dsimp only; rw [if_neg h]
theorem nm_sW {s : Sn} {i t : Nat} {o : Option Nat} (ht : t < 14) : pR (nm s) (18, i, 0) t (o.map fun n => (34, n, 0)) = nm (sW s i t o) := by
  unfold pR nm sW
  dsimp only
  congr 2
  funext z j
  by_cases hz : z = (18, i, 0) ∧ j = t
  · obtain ⟨rfl, rfl⟩ := hz
    rw [if_pos ⟨rfl, rfl⟩]
    show _ = (if j < 14 ∧ 0 = 0 then ((if i = i ∧ j = j then o else s.2.1 i j).map fun n => ((34, n, 0) : Rf)) else none)
    rw [if_pos ⟨ht, rfl⟩, if_pos ⟨rfl, rfl⟩]
  · rw [if_neg hz]
    obtain ⟨a, b, c⟩ := z
    by_cases ha : a = 18
    · subst ha
      show (if j < 14 ∧ c = 0 then ((s.2.1 b j).map fun n => ((34, n, 0) : Rf)) else none) = (if j < 14 ∧ c = 0 then ((if b = i ∧ j = t then o else s.2.1 b j).map fun n => ((34, n, 0) : Rf)) else none)
      by_cases hc : j < 14 ∧ c = 0
      · rw [if_pos hc, if_pos hc, if_neg (fun hb => hz ⟨by rw [hb.1, hc.2], hb.2⟩)]
      · rw [if_neg hc, if_neg hc]
    · unfold rfs
      split <;> first | rfl | (rename_i hh; exact absurd hh ha)
theorem ok_of {s : Sn} {r : Rf} (h : (decide (5 ≤ r.1) && (decide (qoff r < 135) && decide (qmk (qoff r) = r))) = true) : okr (hN s) r = true := by
  simp only [Bool.and_eq_true, decide_eq_true_eq] at h
  unfold okr
  simp only [Bool.and_eq_true, decide_eq_true_eq]
  exact ⟨h.1, Nat.lt_of_lt_of_le h.2.1 (Nat.le_add_right 135 _), h.2.2⟩
def okc (r : Rf) : Bool := decide (5 ≤ r.1) && (decide (qoff r < 135) && decide (qmk (qoff r) = r))
theorem ok4 : (List.range 4).all (fun i => [11, 13, 14, 15, 16, 17, 18, 28, 29].all (fun t => okc (t, i, 0))) = true := by decide +kernel
theorem ok12 : (List.range 4).all (fun i => (List.range 12).all (fun j => okc (12, i, j))) = true := by decide +kernel
theorem ok5 : (List.range 5).all (fun i => [30, 31, 32, 33].all (fun t => okc (t, i, 0))) = true := by decide +kernel
theorem o4 {s : Sn} {t i : Nat} (ht : [11, 13, 14, 15, 16, 17, 18, 28, 29].contains t = true) (hi : i < 4) : okr (hN s) (t, i, 0) = true :=
  ok_of (List.all_eq_true.mp (List.all_eq_true.mp ok4 i (List.mem_range.mpr hi)) t (List.contains_iff_mem.mp ht))
theorem o5 {s : Sn} {t i : Nat} (ht : [30, 31, 32, 33].contains t = true) (hi : i < 5) : okr (hN s) (t, i, 0) = true :=
  ok_of (List.all_eq_true.mp (List.all_eq_true.mp ok5 i (List.mem_range.mpr hi)) t (List.contains_iff_mem.mp ht))
theorem o12 {s : Sn} {i j : Nat} (hi : i < 4) (hj : j < 12) : okr (hN s) (12, i, j) = true :=
  ok_of (List.all_eq_true.mp (List.all_eq_true.mp ok12 i (List.mem_range.mpr hi)) j (List.mem_range.mpr hj))
theorem o11 {s : Sn} {i : Nat} (hi : i < 4) : okr (hN s) (11, i, 0) = true := o4 rfl hi
theorem o13 {s : Sn} {i : Nat} (hi : i < 4) : okr (hN s) (13, i, 0) = true := o4 rfl hi
theorem o14 {s : Sn} {i : Nat} (hi : i < 4) : okr (hN s) (14, i, 0) = true := o4 rfl hi
theorem o15 {s : Sn} {i : Nat} (hi : i < 4) : okr (hN s) (15, i, 0) = true := o4 rfl hi
theorem o16 {s : Sn} {i : Nat} (hi : i < 4) : okr (hN s) (16, i, 0) = true := o4 rfl hi
theorem o17 {s : Sn} {i : Nat} (hi : i < 4) : okr (hN s) (17, i, 0) = true := o4 rfl hi
theorem o18 {s : Sn} {i : Nat} (hi : i < 4) : okr (hN s) (18, i, 0) = true := o4 rfl hi
theorem o28 {s : Sn} {i : Nat} (hi : i < 4) : okr (hN s) (28, i, 0) = true := o4 rfl hi
theorem o29 {s : Sn} {i : Nat} (hi : i < 4) : okr (hN s) (29, i, 0) = true := o4 rfl hi
theorem o30 {s : Sn} {i : Nat} (hi : i < 5) : okr (hN s) (30, i, 0) = true := o5 rfl hi
theorem o31 {s : Sn} {i : Nat} (hi : i < 5) : okr (hN s) (31, i, 0) = true := o5 rfl hi
theorem o32 {s : Sn} {i : Nat} (hi : i < 5) : okr (hN s) (32, i, 0) = true := o5 rfl hi
theorem o33 {s : Sn} {i : Nat} (hi : i < 5) : okr (hN s) (33, i, 0) = true := o5 rfl hi
theorem o10 {s : Sn} : okr (hN s) (10, 0, 0) = true := ok_of rfl
theorem o20 {s : Sn} : okr (hN s) (20, 0, 0) = true := ok_of rfl
theorem o21 {s : Sn} : okr (hN s) (21, 0, 0) = true := ok_of rfl
theorem o22 {s : Sn} : okr (hN s) (22, 0, 0) = true := ok_of rfl
theorem o23 {s : Sn} : okr (hN s) (23, 0, 0) = true := ok_of rfl
theorem o24 {s : Sn} : okr (hN s) (24, 0, 0) = true := ok_of rfl
theorem o25 {s : Sn} : okr (hN s) (25, 0, 0) = true := ok_of rfl
theorem o26 {s : Sn} : okr (hN s) (26, 0, 0) = true := ok_of rfl
theorem o27 {s : Sn} : okr (hN s) (27, 0, 0) = true := ok_of rfl
theorem o40 {s : Sn} : okr (hN s) (40, 0, 0) = true := ok_of rfl
theorem o42 {s : Sn} : okr (hN s) (42, 0, 0) = true := ok_of rfl
theorem o43 {s : Sn} : okr (hN s) (43, 0, 0) = true := ok_of rfl
theorem o41 {s : Sn} (j : Nat) (h : okc (41, j, 0) = true) : okr (hN s) (41, j, 0) = true := ok_of h
theorem qmk_law (n : Nat) : qmk (135 + 3 * n) = (34, n, 0) ∧ qmk (136 + 3 * n) = (35, n, 0) ∧ qmk (137 + 3 * n) = (36, n, 0) := by
  refine ⟨?_, ?_, ?_⟩ <;> unfold qmk <;>
  rw [if_neg (by omega), if_neg (by omega), if_neg (by omega), if_neg (by omega), if_neg (by omega), if_neg (by omega), if_neg (by omega), if_neg (by omega), if_neg (by omega)] <;>
  refine Prod.ext ?_ (Prod.ext ?_ rfl) <;> dsimp only <;> omega
theorem o34 {s : Sn} {n : Nat} (h : n < s.2.2.2.1) : okr (hN s) (34, n, 0) = true := by
  unfold okr
  simp only [Bool.and_eq_true, decide_eq_true_eq]
  exact ⟨by decide, by show 135 + 3 * n < 135 + 3 * s.2.2.2.1; omega, (qmk_law n).1⟩
theorem o35 {s : Sn} {n : Nat} (h : n < s.2.2.2.1) : okr (hN s) (35, n, 0) = true := by
  unfold okr
  simp only [Bool.and_eq_true, decide_eq_true_eq]
  exact ⟨by decide, by show 136 + 3 * n < 135 + 3 * s.2.2.2.1; omega, (qmk_law n).2.1⟩
theorem o36 {s : Sn} {n : Nat} (h : n < s.2.2.2.1) : okr (hN s) (36, n, 0) = true := by
  unfold okr
  simp only [Bool.and_eq_true, decide_eq_true_eq]
  exact ⟨by decide, by show 137 + 3 * n < 135 + 3 * s.2.2.2.1; omega, (qmk_law n).2.2⟩
section NR
variable {d : Nat} {μ : Mu} {pc q : Nat} {l : Lv} {st : List Av} {P : Option Av → St → Prop} {s : Sn} {r : Rf} {ci f k : Nat}
theorem wn_getI (hd : decode μ.1 pc = .ok (.getfield k, 3)) (hf : fld μ.2.1.cls k = some (ci, f)) (ho : okr (hN s) r = true) (hc : gok r.1 ci f = true) (e : pc + 3 = q) (kk : Wp d μ q l (vI (s.1 r f) :: st) (hN s) P) : Wp d μ pc l (.inr (.inr (some r)) :: st) (hN s) P := wp_getI hd hf ho hc e kk
theorem wn_getR {o : Option Rf} (hd : decode μ.1 pc = .ok (.getfield k, 3)) (hf : fld μ.2.1.cls k = some (ci, f)) (ho : okr (hN s) r = true) (hc : gokR r.1 ci f = true) (hv : rfs s.2.1 r f = o) (e : pc + 3 = q) (kk : Wp d μ q l (.inr (.inr o) :: st) (hN s) P) : Wp d μ pc l (.inr (.inr (some r)) :: st) (hN s) P := wp_getR hd hf ho hc hv e kk
theorem wn_putI {v : Int32} (hd : decode μ.1 pc = .ok (.putfield k, 3)) (hf : fld μ.2.1.cls k = some (ci, f)) (ho : okr (hN s) r = true) (hc : pok r.1 ci f μ.2.1.cls μ.2.1.name = true) (ht : tyOf ci f = .int) (e : pc + 3 = q) (kk : Wp d μ q l st (hN (sI s r f v)) P) : Wp d μ pc l (vI v :: .inr (.inr (some r)) :: st) (hN s) P := wp_putI hd hf ho hc ht e kk
theorem wn_putZ {v : Int32} (hd : decode μ.1 pc = .ok (.putfield k, 3)) (hf : fld μ.2.1.cls k = some (ci, f)) (ho : okr (hN s) r = true) (hc : pok r.1 ci f μ.2.1.cls μ.2.1.name = true) (ht : tyOf ci f = .boolean) (h01 : v = 0 ∨ v = 1) (e : pc + 3 = q) (kk : Wp d μ q l st (hN (sI s r f v)) P) : Wp d μ pc l (vI v :: .inr (.inr (some r)) :: st) (hN s) P := wp_putZ hd hf ho hc ht h01 e kk

theorem wn_iald {x : Int32} {j : Nat} (hd : decode μ.1 pc = .ok (.iaload, 1)) (ho : okr (hN s) r = true) (hc : (decide (kd r.1 = 10) && isA r.1) = true) (hx : 0 ≤ x ∧ x.toNatClampNeg = j) (hj : j < lnf s.2.2.1 r) (e : pc + 1 = q) (kk : Wp d μ q l (vI (s.1 r j) :: st) (hN s) P) : Wp d μ pc l (vI x :: .inr (.inr (some r)) :: st) (hN s) P := wp_iald hd (by rw [ho]; rfl) hc hx hj e kk
theorem wx_iald {x : Int32} {j : Nat} (hd : decode μ.1 pc = .ok (.iaload, 1)) (ho : okx r = true) (hc : (decide (kd r.1 = 10) && isA r.1) = true) (hx : 0 ≤ x ∧ x.toNatClampNeg = j) (hj : j < lnf s.2.2.1 r) (e : pc + 1 = q) (kk : Wp d μ q l (vI (s.1 r j) :: st) (hN s) P) : Wp d μ pc l (vI x :: .inr (.inr (some r)) :: st) (hN s) P := wp_iald hd (by rw [ho]; exact Bool.or_true _) hc hx hj e kk
theorem wn_bald {x : Int32} {j : Nat} (hd : decode μ.1 pc = .ok (.baload, 1)) (ho : okr (hN s) r = true) (hc : (decide (kd r.1 = 11) && isA r.1) = true) (hx : 0 ≤ x ∧ x.toNatClampNeg = j) (hj : j < lnf s.2.2.1 r) (e : pc + 1 = q) (kk : Wp d μ q l (vI (s.1 r j) :: st) (hN s) P) : Wp d μ pc l (vI x :: .inr (.inr (some r)) :: st) (hN s) P := wp_bald hd (by rw [ho]; rfl) hc hx hj e kk
theorem wx_bald {x : Int32} {j : Nat} (hd : decode μ.1 pc = .ok (.baload, 1)) (ho : okx r = true) (hc : (decide (kd r.1 = 11) && isA r.1) = true) (hx : 0 ≤ x ∧ x.toNatClampNeg = j) (hj : j < lnf s.2.2.1 r) (e : pc + 1 = q) (kk : Wp d μ q l (vI (s.1 r j) :: st) (hN s) P) : Wp d μ pc l (vI x :: .inr (.inr (some r)) :: st) (hN s) P := wp_bald hd (by rw [ho]; exact Bool.or_true _) hc hx hj e kk
theorem wn_zald {x : Int32} {j : Nat} (hd : decode μ.1 pc = .ok (.baload, 1)) (ho : okr (hN s) r = true) (hc : (decide (kd r.1 = 12) && isA r.1) = true) (hx : 0 ≤ x ∧ x.toNatClampNeg = j) (hj : j < lnf s.2.2.1 r) (e : pc + 1 = q) (kk : Wp d μ q l (vI (s.1 r j) :: st) (hN s) P) : Wp d μ pc l (vI x :: .inr (.inr (some r)) :: st) (hN s) P := wp_zald hd (by rw [ho]; rfl) hc hx hj e kk
theorem wx_zald {x : Int32} {j : Nat} (hd : decode μ.1 pc = .ok (.baload, 1)) (ho : okx r = true) (hc : (decide (kd r.1 = 12) && isA r.1) = true) (hx : 0 ≤ x ∧ x.toNatClampNeg = j) (hj : j < lnf s.2.2.1 r) (e : pc + 1 = q) (kk : Wp d μ q l (vI (s.1 r j) :: st) (hN s) P) : Wp d μ pc l (vI x :: .inr (.inr (some r)) :: st) (hN s) P := wp_zald hd (by rw [ho]; exact Bool.or_true _) hc hx hj e kk
theorem wn_cald {x : Int32} {j : Nat} (hd : decode μ.1 pc = .ok (.caload, 1)) (ho : okr (hN s) r = true) (hc : (decide (kd r.1 = 13) && isA r.1) = true) (hx : 0 ≤ x ∧ x.toNatClampNeg = j) (hj : j < lnf s.2.2.1 r) (e : pc + 1 = q) (kk : Wp d μ q l (vI (s.1 r j) :: st) (hN s) P) : Wp d μ pc l (vI x :: .inr (.inr (some r)) :: st) (hN s) P := wp_cald hd (by rw [ho]; rfl) hc hx hj e kk
theorem wx_cald {x : Int32} {j : Nat} (hd : decode μ.1 pc = .ok (.caload, 1)) (ho : okx r = true) (hc : (decide (kd r.1 = 13) && isA r.1) = true) (hx : 0 ≤ x ∧ x.toNatClampNeg = j) (hj : j < lnf s.2.2.1 r) (e : pc + 1 = q) (kk : Wp d μ q l (vI (s.1 r j) :: st) (hN s) P) : Wp d μ pc l (vI x :: .inr (.inr (some r)) :: st) (hN s) P := wp_cald hd (by rw [ho]; exact Bool.or_true _) hc hx hj e kk
theorem wn_iast {x v : Int32} {j : Nat} (hd : decode μ.1 pc = .ok (.iastore, 1)) (ho : okr (hN s) r = true) (hc : (decide (kd r.1 = 10) && isA r.1) = true) (hx : 0 ≤ x ∧ x.toNatClampNeg = j) (hj : j < lnf s.2.2.1 r) (e : pc + 1 = q) (kk : Wp d μ q l st (hN (sI s r j v)) P) : Wp d μ pc l (vI v :: vI x :: .inr (.inr (some r)) :: st) (hN s) P := wp_iast hd ho hc hx hj e kk
theorem wn_bast {x v : Int32} {j : Nat} (hd : decode μ.1 pc = .ok (.bastore, 1)) (ho : okr (hN s) r = true) (hc : (decide (kd r.1 = 11) && isA r.1) = true) (hx : 0 ≤ x ∧ x.toNatClampNeg = j) (hj : j < lnf s.2.2.1 r) (e : pc + 1 = q) (kk : Wp d μ q l st (hN (sI s r j (vp_nar .byte v))) P) : Wp d μ pc l (vI v :: vI x :: .inr (.inr (some r)) :: st) (hN s) P := wp_bast hd ho hc hx hj e kk
theorem wn_zast {x v : Int32} {j : Nat} (hd : decode μ.1 pc = .ok (.bastore, 1)) (ho : okr (hN s) r = true) (hc : (decide (kd r.1 = 12) && isA r.1) = true) (hx : 0 ≤ x ∧ x.toNatClampNeg = j) (hj : j < lnf s.2.2.1 r) (e : pc + 1 = q) (kk : Wp d μ q l st (hN (sI s r j (vp_nar .boolean v))) P) : Wp d μ pc l (vI v :: vI x :: .inr (.inr (some r)) :: st) (hN s) P := wp_zast hd ho hc hx hj e kk
theorem wn_cast {x v : Int32} {j : Nat} (hd : decode μ.1 pc = .ok (.castore, 1)) (ho : okr (hN s) r = true) (hc : (decide (kd r.1 = 13) && isA r.1) = true) (hx : 0 ≤ x ∧ x.toNatClampNeg = j) (hj : j < lnf s.2.2.1 r) (e : pc + 1 = q) (kk : Wp d μ q l st (hN (sI s r j (vp_nar .char v))) P) : Wp d μ pc l (vI v :: vI x :: .inr (.inr (some r)) :: st) (hN s) P := wp_cast hd ho hc hx hj e kk
theorem wn_aald {x : Int32} {j : Nat} {z : Rf} (hd : decode μ.1 pc = .ok (.aaload, 1)) (ho : okr (hN s) r = true) (hc : (decide (14 ≤ kd r.1) && (decide (kd r.1 < 18) && !isI r.1 j)) = true) (hx : 0 ≤ x ∧ x.toNatClampNeg = j) (hj : j < lnf s.2.2.1 r) (hv : rfs s.2.1 r j = some z) (h5 : 5 ≤ z.1) (e : pc + 1 = q) (kk : Wp d μ q l (.inr (.inr (some z)) :: st) (hN s) P) : Wp d μ pc l (vI x :: .inr (.inr (some r)) :: st) (hN s) P := wp_aald hd ho hc hx hj hv (fun y h => by cases h; exact h5) e kk
theorem rfs13 {lw : Nat → Nat → Option Nat} {i j : Nat} (h : j < 12) : rfs lw (13, i, 0) j = some (12, i, j) := by show (if j < 12 then _ else _) = _; rw [if_pos h]
theorem rfs25 {lw : Nat → Nat → Option Nat} {j : Nat} (h : j < 4) : rfs lw (25, 0, 0) j = some (28, j, 0) := by show (if j < 4 then _ else _) = _; rw [if_pos h]
theorem rfs26 {lw : Nat → Nat → Option Nat} {j : Nat} (h : j < 5) : rfs lw (26, 0, 0) j = some (30, j, 0) := by show (if j < 5 then _ else _) = _; rw [if_pos h]
theorem rfs18 {lw : Nat → Nat → Option Nat} {i j : Nat} (h : j < 14) : rfs lw (18, i, 0) j = (lw i j).map (fun n => (34, n, 0)) := by show (if j < 14 ∧ 0 = 0 then _ else _) = _; rw [if_pos ⟨h, rfl⟩]
/-- a log of a river, a sheet, a slot, a law -/
theorem wn_aald13 {x : Int32} {i j : Nat} (hd : decode μ.1 pc = .ok (.aaload, 1)) (hi : i < 4) (hx : 0 ≤ x ∧ x.toNatClampNeg = j) (hj : j < 12) (e : pc + 1 = q) (kk : Wp d μ q l (vR 12 i j :: st) (hN s) P) : Wp d μ pc l (vI x :: vR 13 i 0 :: st) (hN s) P := wn_aald hd (o13 hi) rfl hx hj (rfs13 hj) (Nat.le_of_ble_eq_true rfl) e kk
theorem wn_aald25 {x : Int32} {j : Nat} (hd : decode μ.1 pc = .ok (.aaload, 1)) (hx : 0 ≤ x ∧ x.toNatClampNeg = j) (hj : j < 4) (e : pc + 1 = q) (kk : Wp d μ q l (vR 28 j 0 :: st) (hN s) P) : Wp d μ pc l (vI x :: vR 25 0 0 :: st) (hN s) P := wn_aald hd o25 rfl hx hj (rfs25 hj) (Nat.le_of_ble_eq_true rfl) e kk
theorem wn_aald26 {x : Int32} {j : Nat} (hd : decode μ.1 pc = .ok (.aaload, 1)) (hx : 0 ≤ x ∧ x.toNatClampNeg = j) (hj : j < 5) (e : pc + 1 = q) (kk : Wp d μ q l (vR 30 j 0 :: st) (hN s) P) : Wp d μ pc l (vI x :: vR 26 0 0 :: st) (hN s) P := wn_aald hd o26 rfl hx hj (rfs26 hj) (Nat.le_of_ble_eq_true rfl) e kk
theorem wn_aald18 {x : Int32} {i j : Nat} (hd : decode μ.1 pc = .ok (.aaload, 1)) (hi : i < 4) (hx : 0 ≤ x ∧ x.toNatClampNeg = j) (hj : j < 14) (e : pc + 1 = q) (kk : Wp d μ q l (.inr (.inr ((s.2.1 i j).map fun n => (34, n, 0))) :: st) (hN s) P) : Wp d μ pc l (vI x :: vR 18 i 0 :: st) (hN s) P :=
  wp_aald (o := (s.2.1 i j).map fun n => (34, n, 0)) hd (o18 hi) rfl hx hj (show rfs s.2.1 (18, i, 0) j = _ from rfs18 hj) (fun y h => by
    cases hz : s.2.1 i j with
    | none => rw [hz] at h; cases h
    | some n => rw [hz] at h; cases h; exact Nat.le_of_ble_eq_true rfl) e kk
theorem wn_aast18 {x : Int32} {i j : Nat} {o : Option Nat} (hd : decode μ.1 pc = .ok (.aastore, 1)) (hi : i < 4) (hx : 0 ≤ x ∧ x.toNatClampNeg = j) (hj : j < 14) (hn : ∀ n, o = some n → n < s.2.2.2.1) (e : pc + 1 = q) (kk : Wp d μ q l st (hN (sW s i j o)) P) : Wp d μ pc l (.inr (.inr (o.map fun n => (34, n, 0))) :: vI x :: vR 18 i 0 :: st) (hN s) P := by
  refine wp_aast (r := (18, i, 0)) hd (o18 hi) rfl hx hj (fun z hz => ?_) e ?_
  · cases o with
    | none => cases hz
    | some n => cases hz; exact ⟨o34 (hn n rfl), rfl⟩
  · rw [nm_sW hj]; exact kk
theorem wn_alen {n : Nat} (hd : decode μ.1 pc = .ok (.arraylength, 1)) (ho : okr (hN s) r = true) (hc : (decide (10 ≤ kd r.1) && decide (kd r.1 < 18)) = true) (hn : lnf s.2.2.1 r = n) (e : pc + 1 = q) (kk : Wp d μ q l (vI (nI n) :: st) (hN s) P) : Wp d μ pc l (.inr (.inr (some r)) :: st) (hN s) P := wp_alen hd (by rw [ho]; rfl) hc hn e kk
theorem wx_alen {n : Nat} (hd : decode μ.1 pc = .ok (.arraylength, 1)) (ho : okx r = true) (hc : (decide (10 ≤ kd r.1) && decide (kd r.1 < 18)) = true) (hn : lnf s.2.2.1 r = n) (e : pc + 1 = q) (kk : Wp d μ q l (vI (nI n) :: st) (hN s) P) : Wp d μ pc l (.inr (.inr (some r)) :: st) (hN s) P := wp_alen hd (by rw [ho]; exact Bool.or_true _) hc hn e kk
theorem wn_acopy {z : Rf} {n dp sp : Int32} {N D S : Nat} (hd : decode μ.1 pc = .ok (.invokestatic k, 3)) (hf : spc μ.2.1.cls k = some 1) (ho : okr (hN s) r = true) (hz : okr (hN s) z = true) (hc : (decide (kd r.1 = 10) && isA r.1) = true) (hcz : (decide (kd z.1 = 10) && isA z.1) = true) (hn : 0 ≤ n ∧ n.toNatClampNeg = N) (hdp : 0 ≤ dp ∧ dp.toNatClampNeg = D) (hsp : 0 ≤ sp ∧ sp.toNatClampNeg = S) (h1 : S + N ≤ lnf s.2.2.1 z) (h2 : D + N ≤ lnf s.2.2.1 r) (h1d : 1 ≤ d) (h8 : (st.map qcat).sum ≤ 8) (e : pc + 3 = q)
    (kk : Wp d μ q l st (hN (sV s r (va_cpy (s.1 z) (s.1 r) S D N))) P) : Wp d μ pc l (vI n :: vI dp :: .inr (.inr (some r)) :: vI sp :: .inr (.inr (some z)) :: st) (hN s) P := wp_acopy hd hf ho hz hc hcz hn hdp hsp h1 h2 h1d h8 e kk
end NR
