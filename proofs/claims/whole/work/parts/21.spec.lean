/-! THE PURE PART, 6: what the numbers mean: the row that an image keeps, as the reference lays it -/
abbrev Fl : Type := Nat → Int32
theorem sI_row {s : Sn} {r : Rf} {k : Nat} {v : Int32} : (sI s r k v).1 r = upd (s.1 r) k v := by
  funext j
  unfold sI upd
  dsimp only
  by_cases h : j = k
  · rw [if_pos ⟨rfl, h⟩, if_pos h]
  · rw [if_neg (fun e => h e.2), if_neg h]
/-- which cells may have changed -/
def Fr (X : List Rf) (s t : Sn) : Prop := (∀ r, r ∉ X → t.1 r = s.1 r) ∧ t.2 = s.2
theorem Fr.rf {X : List Rf} {s : Sn} : Fr X s s := ⟨fun _ _ => rfl, rfl⟩
theorem Fr.tr {X : List Rf} {a b c : Sn} (h1 : Fr X a b) (h2 : Fr X b c) : Fr X a c := ⟨fun r hr => (h2.1 r hr).trans (h1.1 r hr), h2.2.trans h1.2⟩
theorem Fr.wd {X Y : List Rf} {a b : Sn} (h : Fr X a b) (hs : ∀ r, r ∈ X → r ∈ Y) : Fr Y a b := ⟨fun r hr => h.1 r (fun z => hr (hs r z)), h.2⟩
theorem Fr.pt {X : List Rf} {a b : Sn} {r : Rf} {k : Nat} {v : Int32} (h : Fr X a b) (hr : r ∈ X) : Fr X a (sI b r k v) := ⟨fun z hz => (sI_nr (fun e => hz (by rw [e]; exact hr))).trans (h.1 z hz), h.2⟩
theorem Fr.vt {X : List Rf} {a b : Sn} {r : Rf} {f : Nat → Int32} (h : Fr X a b) (hr : r ∈ X) : Fr X a (sV b r f) := ⟨fun z hz => (sV_nr (fun e => hz (by rw [e]; exact hr))).trans (h.1 z hz), h.2⟩
def rm (x y : Int32) : Int32 := x - x / y * y
def cn (f : Fl) : Nat := (f 1).toNatClampNeg
def tn (f : Fl) : Nat := (f 8).toNatClampNeg
def wn (f : Fl) : Nat := (f 7).toNatClampNeg
def ctr (p : Nat → Bool) : Nat → Nat
  | 0 => 0
  | n + 1 => ctr p n + (if p n = true then 1 else 0)
theorem ctr_le (p : Nat → Bool) : ∀ n, ctr p n ≤ n
  | 0 => Nat.le_refl _
  | n + 1 => by
    have h := ctr_le p n
    show ctr p n + _ ≤ n + 1
    split <;> omega
theorem ctr_cong {p q : Nat → Bool} : ∀ {n : Nat}, (∀ k, k < n → p k = q k) → ctr p n = ctr q n
  | 0, _ => rfl
  | n + 1, h => by
    show ctr p n + _ = ctr q n + _
    rw [ctr_cong (fun k hk => h k (by omega)), h n (by omega)]
/-- how many logs are at a reach -/
def mny (f : Fl) (r : Int32) : Nat := ctr (fun g => decide (f (45 + 5 * g + 3) = r)) (cn f)
def dz (z : Int32) : Int32 := z * 1103515245 + 12345
def dv (z : Int32) : Int32 := (z.toUInt32 >>> ((8 : Int32).toUInt32 &&& Int32.toUInt32 31)).toInt32
/-- the text that counts for a key -/
def cts (f : Fl) (key : Int32) : Nat → Option Nat
  | 0 => none
  | t + 1 => if f (105 + 2 * t) / 1000 = key then some t else cts f key t
def oI (o : Option Nat) : Int32 := match o with
  | some t => nI t
  | none => -1
def two (c a b : Int32) : Int32 := if c = -8 then a * b else if c = -7 then a - b else if c = -6 then a + b else if c = -5 then bI (b < a) else if c = -4 then bI (a = b) else if c = -3 then bI (a < b) else if c = -2 then bI (¬ a = 0 ∧ ¬ b = 0) else if c = -1 then bI (¬ a = 0 ∨ ¬ b = 0) else if b = 0 then 0 else a / b
/-- a text's signs, worked out -/
def evl (fa : Int32 → Int32) : List Int32 → List Int32 → List Int32
  | [], st => st
  | c :: cs, st => if 0 ≤ c then evl fa cs ((if c < 10000 then c else fa (c - 10000)) :: st) else if c = -10 then evl fa cs ((if st.headD 0 = 0 then 1 else 0) :: st.tail) else evl fa cs (two c (st.tail.headD 0) (st.headD 0) :: st.tail.tail)
/-- the signs fit: so many numbers wait at the end as one -/
def wfd : List Int32 → Nat → Bool
  | [], n => n == 1
  | c :: cs, n => if 0 ≤ c then decide (n < 96) && (decide (c < 10003) && wfd cs (n + 1)) else if c = -10 then decide (1 ≤ n) && wfd cs n else decide (2 ≤ n) && (decide (-10 ≤ c) && wfd cs (n - 1))
def cod (f : Fl) (t n : Nat) : List Int32 := (List.range n).map fun k => f (133 + 96 * t + k)
def nco (f : Fl) (t : Nat) : Nat := (rm (f (105 + 2 * t)) 1000).toNatClampNeg
def evT (f : Fl) (t : Nat) (fa : Int32 → Int32) : Int32 := (evl fa (cod f t (nco f t)) []).headD 0
def fa3 (a b c : Int32) : Int32 → Int32 := fun i => if i = 0 then a else if i = 1 then b else c
/-- a text is fit -/
def WT (f : Fl) (t : Nat) : Prop := ∃ n, n ≤ 96 ∧ rm (f (105 + 2 * t)) 1000 = nI n ∧ wfd (cod f t n) 0 = true
def kdr (K fl pl : Int32) : Int32 := if K = 1 then pl / 2 else if K = 2 then pl + 1 else if K = 3 then (if fl < 5 then 0 else pl / 2) else if K = 4 then wth (pl + 1) 0 3 else if K = 5 then 0 else pl
def pln (f : Fl) (g : Nat) : Int32 := match cts f 0 (tn f) with
  | none => f 3 - f (45 + 5 * g + 2) / 10
  | some t => evT f t (fa3 (f 3) (f (45 + 5 * g + 2)) (f (45 + 5 * g + 3)))
def drf (f : Fl) (g : Nat) : Int32 := kdr (f (45 + 5 * g + 0)) (f 3) (wth (pln f g) 0 12)
def clm (K sw : Int32) : Int32 := if K = 2 then sw + 10 else if K = 3 then sw / 2 else if K = 4 then 0 else if K = 5 then 0 else sw
def wor (K ms : Int32) : Int32 := if K = 1 then ms + 7 else if K = 2 then 99 - ms else if K = 3 then 2 * (ms + 7) else if K = 4 then 94 - ms else if K = 5 then 1 else ms
/-- one step down the river -/
def stp (f : Fl) (g : Nat) : Fl × Bool :=
  let r := f (45 + 5 * g + 3)
  if r < 12 ∧ f (33 + r.toNatClampNeg) = 0 ∧ (r = 11 ∨ nI (mny f (r + 1)) < f (21 + (r + 1).toNatClampNeg)) then
    (if r = 11 then (upd (upd f (45 + 5 * g + 4) (nI (mny f 12) + 1)) (45 + 5 * g + 3) 12, false) else (upd f (45 + 5 * g + 3) (r + 1), true))
  else (f, false)
def gdn (g : Nat) : Nat → Fl → Fl
  | 0, f => f
  | n + 1, f => if (stp f g).2 = true then gdn g n (stp f g).1 else (stp f g).1
/-- the logs of a reach go down, from number g on -/
def rch (r : Int32) : Nat → Fl → Fl
  | 0, f => f
  | n + 1, f => let g := cn f - (n + 1); rch r n (if f (45 + 5 * g + 3) = r then gdn g (drf f g).toNatClampNeg f else f)
def rvr : Nat → Fl → Fl
  | 0, f => f
  | n + 1, f => rvr n (rch (nI n) (cn f) f)
def swg (f : Fl) : Fl :=
  let z := dz (f 0)
  let f1 := upd f 0 z
  let g := (rm (dv z) (f 1)).toNatClampNeg
  if f1 (45 + 5 * g + 3) < 12 then
    let z2 := dz z
    let f2 := upd f1 0 z2
    if rm (dv z2) 100 < clm (f2 (45 + 5 * g + 0)) (f2 5) then upd (upd f2 (45 + 5 * g + 3) 13) 6 (f2 6 + 1) else f2
  else f1
def wk0 (f : Fl) : Fl := upd (upd f 0 (dz (f 0))) 3 (wth (rm (dv (dz (f 0))) 10 - f 4) 0 9)
def wk1 (f : Fl) : Fl := rvr 12 (wk0 f)
def wk2 (f : Fl) : Fl := if 0 < f 5 ∧ 0 < f 1 then swg f else f
def wek (f : Fl) : Fl := let f2 := wk2 (wk1 f); upd f2 2 (f2 2 + 1)
def weks : Nat → Fl → Fl
  | 0, f => f
  | n + 1, f => weks n (wek f)
