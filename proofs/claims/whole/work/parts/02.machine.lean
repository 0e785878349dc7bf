/-! THE ABSTRACT MACHINE: a plain interpreter of the claim's bytecode over named cells. A cell's name is (tag, i, j); its contents are a function of the place. -/
abbrev Rf : Type := Nat × Nat × Nat
abbrev Av : Type := Int32 ⊕ (Int64 ⊕ Option Rf)
abbrev vI (x : Int32) : Av := Sum.inl x
abbrev vL (x : Int64) : Av := Sum.inr (Sum.inl x)
abbrev vR (t i j : Nat) : Av := Sum.inr (Sum.inr (some (t, i, j)))
abbrev vN : Av := Sum.inr (Sum.inr none)
abbrev Hp : Type := Rf → Nat → Av
/-- cells, lengths of arrays, how many cells, how many slots -/
abbrev St : Type := Hp × (Rf → Nat) × Nat × Nat
abbrev Lv : Type := List (Option Av)
/-- a method: bytes, name, locals, return type -/
abbrev Mu : Type := ByteArray × MethodName × Nat × Option FieldType
/-- the kind of a tag: 0 .. 8 a class of vwCl; 10 int[], 11 byte[], 12 boolean[], 13 char[], 14 Log[], 15 Law[], 16 Row[], 17 Slot[]; 20 String -/
def kdL : List Nat := [10, 10, 20, 11, 98, 99, 99, 99, 99, 99, 7, 3, 1, 14, 10, 10, 10, 10, 15, 99, 2, 6, 11, 10, 10, 16, 17, 10, 4, 10, 5, 1, 4, 10, 0, 10, 10, 99, 99, 99, 8, 10, 13, 12]
def kd (t : Nat) : Nat := kdL.getD t 99
def aty (k : Nat) : FieldType := match k with
  | 10 => .int
  | 11 => .byte
  | 12 => .boolean
  | 13 => .char
  | 14 => .object RX1
  | 15 => .object RX0
  | 16 => .object RX4
  | _ => .object RX5
/-- the class whose objects an array of kind k holds -/
def ecl (k : Nat) : Nat := match k with
  | 14 => 1
  | 15 => 0
  | 16 => 4
  | _ => 5
def qoff (r : Rf) : Nat := match r.1 with
  | 10 => 0
  | 11 => 1 + 19 * r.2.1
  | 12 => 8 + 19 * r.2.1 + r.2.2
  | 13 => 2 + 19 * r.2.1
  | 14 => 3 + 19 * r.2.1
  | 15 => 4 + 19 * r.2.1
  | 16 => 5 + 19 * r.2.1
  | 17 => 6 + 19 * r.2.1
  | 18 => 7 + 19 * r.2.1
  | 20 => 77
  | 21 => 78
  | 22 => 79
  | 23 => 80
  | 24 => 81
  | 25 => 82
  | 26 => 83
  | 27 => 84
  | 28 => 85 + 2 * r.2.1
  | 29 => 86 + 2 * r.2.1
  | 30 => 93 + 4 * r.2.1
  | 31 => 94 + 4 * r.2.1
  | 32 => 95 + 4 * r.2.1
  | 33 => 96 + 4 * r.2.1
  | 40 => 113
  | 41 => 114 + r.2.1
  | 42 => 119
  | 43 => 123
  | 34 => 135 + 3 * r.2.1
  | 35 => 136 + 3 * r.2.1
  | 36 => 137 + 3 * r.2.1
  | _ => 0
/-- the name of the cell that is made as the n-th -/
def qmk (n : Nat) : Rf :=
  if n = 0 then (10, 0, 0)
  else if n < 77 then (if (n - 1) % 19 = 0 then (11, (n - 1) / 19, 0) else if (n - 1) % 19 < 7 then (12 + (n - 1) % 19, (n - 1) / 19, 0) else (12, (n - 1) / 19, (n - 1) % 19 - 7))
  else if n < 85 then (n - 57, 0, 0)
  else if n < 93 then (28 + (n - 85) % 2, (n - 85) / 2, 0)
  else if n < 113 then (30 + (n - 93) % 4, (n - 93) / 4, 0)
  else if n = 113 then (40, 0, 0)
  else if n = 119 then (42, 0, 0)
  else if n = 123 then (43, 0, 0)
  else if n < 135 then (41, n - 114, 0)
  else (34 + (n - 135) % 3, (n - 135) / 3, 0)
theorem qoff_mk_lo : ∀ n, n < 135 → qoff (qmk n) = n := by decide +kernel
theorem qoff_mk (n : Nat) : qoff (qmk n) = n := by
  by_cases h : n < 135
  · exact qoff_mk_lo n h
  · have e : qmk n = (34 + (n - 135) % 3, (n - 135) / 3, 0) := by
      unfold qmk
      rw [if_neg (by omega), if_neg (by omega), if_neg (by omega), if_neg (by omega), if_neg (by omega), if_neg (by omega), if_neg (by omega), if_neg (by omega), if_neg (by omega)]
    rw [e]
    have h3 : (n - 135) % 3 = 0 ∨ (n - 135) % 3 = 1 ∨ (n - 135) % 3 = 2 := by omega
    rcases h3 with h3 | h3 | h3 <;> rw [h3] <;> simp only [qoff] <;> omega
theorem mk_tag_lo : ∀ n, n < 135 → 10 ≤ (qmk n).1 := by decide +kernel
theorem mk_tag (n : Nat) : 10 ≤ (qmk n).1 := by
  by_cases h : n < 135
  · exact mk_tag_lo n h
  · unfold qmk
    rw [if_neg (by omega), if_neg (by omega), if_neg (by omega), if_neg (by omega), if_neg (by omega), if_neg (by omega), if_neg (by omega), if_neg (by omega), if_neg (by omega)]
    show 10 ≤ 34 + (n - 135) % 3
    omega
/-! what the tables say: the words stand at their places of lw_tbl -/
def okw (w : Jvm.Cond) : Bool := decide (w ∈ lw_tbl) && goodWord w
/-- the word w stands at place i -/
def tat (i : Nat) (w : Jvm.Cond) : Bool := decide (lw_tbl[i]? = some w) && goodWord w
theorem tat_okw {i : Nat} {w : Jvm.Cond} (h : tat i w = true) : okw w = true := by
  unfold tat at h
  simp only [Bool.and_eq_true, decide_eq_true_eq] at h
  unfold okw
  rw [decide_eq_true (List.mem_of_getElem? h.1), h.2]
  rfl
/-! THE TABLES: what the pools say, with the places of the words that say so -/
def MX0_init : Mu := (cX0_init, yX0_init, 6, none)
def MX0_give : Mu := (cX0_give, yX0_give, 7, (some .int))
def MX0_valueOf : Mu := (cX0_valueOf, yX0_valueOf, 4, (some .int))
def MX0_joined : Mu := (cX0_joined, yX0_joined, 3, (some .int))
def MX1_init : Mu := (cX1_init, yX1_init, 1, none)
def MX1_takeOver : Mu := (cX1_takeOver, yX1_takeOver, 2, none)
def MX1_isAfloat : Mu := (cX1_isAfloat, yX1_isAfloat, 1, (some .boolean))
def MX1_isOf : Mu := (cX1_isOf, yX1_isOf, 4, (some .boolean))
def MX1_driftFrom : Mu := (cX1_driftFrom, yX1_driftFrom, 3, (some .int))
def MX1_claimedBy : Mu := (cX1_claimedBy, yX1_claimedBy, 2, (some .int))
def MX1_worth : Mu := (cX1_worth, yX1_worth, 1, (some .int))
def MX2_init : Mu := (cX2_init, yX2_init, 1, none)
def MX2_readLaw : Mu := (cX2_readLaw, yX2_readLaw, 2, (some (.object "LogLetters$Law")))
def MX2_begin : Mu := (cX2_begin, yX2_begin, 1, none)
def MX2_nextWord : Mu := (cX2_nextWord, yX2_nextWord, 2, (some .boolean))
def MX2_sortOf : Mu := (cX2_sortOf, yX2_sortOf, 1, (some .int))
def MX2_takesKey : Mu := (cX2_takesKey, yX2_takesKey, 1, (some .boolean))
def MX2_isWord : Mu := (cX2_isWord, yX2_isWord, 3, (some .boolean))
def MX2_goesOn : Mu := (cX2_goesOn, yX2_goesOn, 2, (some .boolean))
def MX2_takesPiece : Mu := (cX2_takesPiece, yX2_takesPiece, 2, (some .boolean))
def MX2_takesNumber : Mu := (cX2_takesNumber, yX2_takesNumber, 3, (some .boolean))
def MX2_takesName : Mu := (cX2_takesName, yX2_takesName, 3, (some .boolean))
def MX2_namesOf : Mu := (cX2_namesOf, yX2_namesOf, 1, (some (.object "java/lang/String")))
def MX2_takesSign : Mu := (cX2_takesSign, yX2_takesSign, 4, (some .boolean))
def MX2_levelOf : Mu := (cX2_levelOf, yX2_levelOf, 1, (some .int))
def MX2_closesBracket : Mu := (cX2_closesBracket, yX2_closesBracket, 1, (some .boolean))
def MX2_addPiece : Mu := (cX2_addPiece, yX2_addPiece, 2, none)
def MX2_closeBangs : Mu := (cX2_closeBangs, yX2_closeBangs, 2, none)
def MX2_closeDownTo : Mu := (cX2_closeDownTo, yX2_closeDownTo, 3, none)
def MX2_topSign : Mu := (cX2_topSign, yX2_topSign, 1, (some .int))
def MX2_pop : Mu := (cX2_pop, yX2_pop, 1, (some .int))
def MX2_push : Mu := (cX2_push, yX2_push, 2, none)
def MX2_addCode : Mu := (cX2_addCode, yX2_addCode, 2, none)
def MX3_init : Mu := (cX3_init, yX3_init, 2, none)
def MX3_takeOver : Mu := (cX3_takeOver, yX3_takeOver, 3, none)
def MX3_hasLog : Mu := (cX3_hasLog, yX3_hasLog, 2, (some .boolean))
def MX3_addLog : Mu := (cX3_addLog, yX3_addLog, 5, (some .boolean))
def MX3_drawLog : Mu := (cX3_drawLog, yX3_drawLog, 4, none)
def MX3_addLetter : Mu := (cX3_addLetter, yX3_addLetter, 2, (some .boolean))
def MX3_addLaw : Mu := (cX3_addLaw, yX3_addLaw, 2, (some .boolean))
def MX3_lawAt : Mu := (cX3_lawAt, yX3_lawAt, 2, (some (.object "LogLetters$Law")))
def MX3_lawNumberFor : Mu := (cX3_lawNumberFor, yX3_lawNumberFor, 4, (some .int))
def MX3_lawFor : Mu := (cX3_lawFor, yX3_lawFor, 2, (some (.object "LogLetters$Law")))
def MX3_draw : Mu := (cX3_draw, yX3_draw, 1, (some .int))
def MX3_driftOf : Mu := (cX3_driftOf, yX3_driftOf, 4, (some .int))
def MX3_passWeeks : Mu := (cX3_passWeeks, yX3_passWeeks, 3, none)
def MX3_passWeek : Mu := (cX3_passWeek, yX3_passWeek, 3, none)
def MX3_countHeld : Mu := (cX3_countHeld, yX3_countHeld, 2, none)
def MX3_carryFrom : Mu := (cX3_carryFrom, yX3_carryFrom, 4, none)
def MX3_carry : Mu := (cX3_carry, yX3_carry, 4, none)
def MX3_mayLeave : Mu := (cX3_mayLeave, yX3_mayLeave, 3, (some .boolean))
def MX3_sawByLot : Mu := (cX3_sawByLot, yX3_sawByLot, 2, none)
def MX3_letterRead : Mu := (cX3_letterRead, yX3_letterRead, 3, (some .int))
def MX3_spelt : Mu := (cX3_spelt, yX3_spelt, 3, (some .int))
def MX3_unusedWith : Mu := (cX3_unusedWith, yX3_unusedWith, 5, (some .int))
def MX3_jammed : Mu := (cX3_jammed, yX3_jammed, 3, (some .int))
def MX3_afloat : Mu := (cX3_afloat, yX3_afloat, 3, (some .int))
def MX3_reachesTogether : Mu := (cX3_reachesTogether, yX3_reachesTogether, 3, (some .int))
def MX4_init : Mu := (cX4_init, yX4_init, 1, none)
def MX4_become : Mu := (cX4_become, yX4_become, 4, none)
def MX4_takeOver : Mu := (cX4_takeOver, yX4_takeOver, 2, none)
def MX4_isMissing : Mu := (cX4_isMissing, yX4_isMissing, 1, (some .boolean))
def MX4_hasPlace : Mu := (cX4_hasPlace, yX4_hasPlace, 2, (some .boolean))
def MX4_hasNumber : Mu := (cX4_hasNumber, yX4_hasNumber, 2, (some .boolean))
def MX4_hasPlaces : Mu := (cX4_hasPlaces, yX4_hasPlaces, 3, (some .boolean))
def MX5_init : Mu := (cX5_init, yX5_init, 1, none)
def MX5_findingFor : Mu := (cX5_findingFor, yX5_findingFor, 2, (some .int))
def MX6_init : Mu := (cX6_init, yX6_init, 1, none)
def MX6_addBytesOf : Mu := (cX6_addBytesOf, yX6_addBytesOf, 3, none)
def MX6_byteAt : Mu := (cX6_byteAt, yX6_byteAt, 2, (some .int))
def MX7_init : Mu := (cX7_init, yX7_init, 2, none)
def MX7_log : Mu := (cX7_log, yX7_log, 4, (some .int))
def MX7_told : Mu := (cX7_told, yX7_told, 4, (some .int))
def MX7_as : Mu := (cX7_as, yX7_as, 3, (some .int))
def MX7_turns : Mu := (cX7_turns, yX7_turns, 4, (some .int))
def MX7_set : Mu := (cX7_set, yX7_set, 6, (some .int))
def MX7_lays : Mu := (cX7_lays, yX7_lays, 4, (some .int))
def MX7_reach : Mu := (cX7_reach, yX7_reach, 5, (some .int))
def MX7_rule : Mu := (cX7_rule, yX7_rule, 4, (some .int))
def MX7_word : Mu := (cX7_word, yX7_word, 2, (some .int))
def MX7_unword : Mu := (cX7_unword, yX7_unword, 2, (some .int))
def MX7_deal : Mu := (cX7_deal, yX7_deal, 4, (some .int))
def MX7_seed : Mu := (cX7_seed, yX7_seed, 3, (some .int))
def MX7_weeks : Mu := (cX7_weeks, yX7_weeks, 3, (some .int))
def MX7_read : Mu := (cX7_read, yX7_read, 2, (some .int))
def MX7_river : Mu := (cX7_river, yX7_river, 2, (some .int))
def MX7_behind : Mu := (cX7_behind, yX7_behind, 3, (some .int))
def MX7_whole : Mu := (cX7_whole, yX7_whole, 2, (some .int))
def MX7_frees : Mu := (cX7_frees, yX7_frees, 6, (some .int))
def MX7_lost : Mu := (cX7_lost, yX7_lost, 5, (some .int))
def MX7_wider : Mu := (cX7_wider, yX7_wider, 6, (some .int))
def MX7_opened : Mu := (cX7_opened, yX7_opened, 4, (some .int))
def MX7_rolled : Mu := (cX7_rolled, yX7_rolled, 5, (some .int))
def MX7_looked : Mu := (cX7_looked, yX7_looked, 8, (some .int))
def MX7_fee : Mu := (cX7_fee, yX7_fee, 2, (some .int))
def MX7_fine : Mu := (cX7_fine, yX7_fine, 4, (some .int))
def MX7_feed : Mu := (cX7_feed, yX7_feed, 5, (some .int))
def MX7_trim : Mu := (cX7_trim, yX7_trim, 2, (some .int))
def MX7_text : Mu := (cX7_text, yX7_text, 2, (some .int))
def MX7_textTold : Mu := (cX7_textTold, yX7_textTold, 4, (some .int))
def MX7_why : Mu := (cX7_why, yX7_why, 2, (some .int))
def MX7_sheet : Mu := (cX7_sheet, yX7_sheet, 4, (some .int))
def MX7_mark : Mu := (cX7_mark, yX7_mark, 5, (some .int))
def MX7_pour : Mu := (cX7_pour, yX7_pour, 5, (some .int))
def MX7_reads : Mu := (cX7_reads, yX7_reads, 4, (some .int))
def MX7_copy : Mu := (cX7_copy, yX7_copy, 8, (some .int))
def MX7_lay : Mu := (cX7_lay, yX7_lay, 5, (some .int))
def MX7_ask : Mu := (cX7_ask, yX7_ask, 4, (some .int))
def MX7_item : Mu := (cX7_item, yX7_item, 5, (some .int))
def MX7_rest : Mu := (cX7_rest, yX7_rest, 4, (some .int))
def MX7_tell : Mu := (cX7_tell, yX7_tell, 2, (some .int))
def MX7_check : Mu := (cX7_check, yX7_check, 5, (some .int))
def MX7_keep : Mu := (cX7_keep, yX7_keep, 1, (some .int))
def MX7_back : Mu := (cX7_back, yX7_back, 1, (some .int))
def MX7_count : Mu := (cX7_count, yX7_count, 2, (some .int))
def MX7_startThought : Mu := (cX7_startThought, yX7_startThought, 1, none)
def MX7_startThoughtWithout : Mu := (cX7_startThoughtWithout, yX7_startThoughtWithout, 2, none)
def MX7_apartWithMass : Mu := (cX7_apartWithMass, yX7_apartWithMass, 6, (some .int))
def MX7_isWaiting : Mu := (cX7_isWaiting, yX7_isWaiting, 4, (some .boolean))
def MX7_within : Mu := (cX7_within, yX7_within, 3, (some .boolean))
def MX7_hold : Mu := (cX7_hold, yX7_hold, 3, (some .int))
def MX7_isKind : Mu := (cX7_isKind, yX7_isKind, 1, (some .boolean))
def MX7_isLetter : Mu := (cX7_isLetter, yX7_isLetter, 1, (some .boolean))
def MX7_isMass : Mu := (cX7_isMass, yX7_isMass, 1, (some .boolean))
def MX7_isReach : Mu := (cX7_isReach, yX7_isReach, 1, (some .boolean))
def MX7_isSheet : Mu := (cX7_isSheet, yX7_isSheet, 1, (some .boolean))
def MX7_isSlot : Mu := (cX7_isSlot, yX7_isSlot, 1, (some .boolean))
def MX8_init : Mu := (cX8_init, yX8_init, 2, none)
def MX8_in : Mu := (cX8_in, yX8_in, 3, (some .boolean))
def MX8_within : Mu := (cX8_within, yX8_within, 3, (some .int))
def MX8_copyAll : Mu := (cX8_copyAll, yX8_copyAll, 3, none)
def MX8_isLog : Mu := (cX8_isLog, yX8_isLog, 2, (some .boolean))
def MX8_isReach : Mu := (cX8_isReach, yX8_isReach, 1, (some .boolean))
def MX8_of : Mu := (cX8_of, yX8_of, 3, (some .int))
def MX8_put : Mu := (cX8_put, yX8_put, 4, none)
def MX8_becomes : Mu := (cX8_becomes, yX8_becomes, 4, (some .int))
def MX8_comes : Mu := (cX8_comes, yX8_comes, 5, (some .int))
def MX8_log : Mu := (cX8_log, yX8_log, 4, (some .int))
def MX8_driftsOf : Mu := (cX8_driftsOf, yX8_driftsOf, 4, (some .int))
def MX8_claimedOf : Mu := (cX8_claimedOf, yX8_claimedOf, 2, (some .int))
def MX8_worthOf : Mu := (cX8_worthOf, yX8_worthOf, 3, (some .int))
def MX8_told : Mu := (cX8_told, yX8_told, 3, (some .int))
def MX8_isUnder : Mu := (cX8_isUnder, yX8_isUnder, 2, (some .boolean))
def MX8_as : Mu := (cX8_as, yX8_as, 3, (some .int))
def MX8_turns : Mu := (cX8_turns, yX8_turns, 3, (some .int))
def MX8_set : Mu := (cX8_set, yX8_set, 4, (some .int))
def MX8_lays : Mu := (cX8_lays, yX8_lays, 3, (some .int))
def MX8_reach : Mu := (cX8_reach, yX8_reach, 4, (some .int))
def MX8_rule : Mu := (cX8_rule, yX8_rule, 3, (some .int))
def MX8_word : Mu := (cX8_word, yX8_word, 2, (some .int))
def MX8_unword : Mu := (cX8_unword, yX8_unword, 1, (some .int))
def MX8_draw : Mu := (cX8_draw, yX8_draw, 1, (some .int))
def MX8_deal : Mu := (cX8_deal, yX8_deal, 6, (some .int))
def MX8_seed : Mu := (cX8_seed, yX8_seed, 2, (some .int))
def MX8_manyAt : Mu := (cX8_manyAt, yX8_manyAt, 4, (some .int))
def MX8_goesDown : Mu := (cX8_goesDown, yX8_goesDown, 5, none)
def MX8_saws : Mu := (cX8_saws, yX8_saws, 2, none)
def MX8_week : Mu := (cX8_week, yX8_week, 3, none)
def MX8_goesOn : Mu := (cX8_goesOn, yX8_goesOn, 3, none)
def MX8_weeks : Mu := (cX8_weeks, yX8_weeks, 3, (some .int))
def MX8_read : Mu := (cX8_read, yX8_read, 4, (some .int))
def MX8_spelt : Mu := (cX8_spelt, yX8_spelt, 6, (some .int))
def MX8_jam : Mu := (cX8_jam, yX8_jam, 4, (some .int))
def MX8_river : Mu := (cX8_river, yX8_river, 4, (some .int))
def MX8_thinks : Mu := (cX8_thinks, yX8_thinks, 2, none)
def MX8_putsBack : Mu := (cX8_putsBack, yX8_putsBack, 2, none)
def MX8_behind : Mu := (cX8_behind, yX8_behind, 4, (some .int))
def MX8_whole : Mu := (cX8_whole, yX8_whole, 2, (some .int))
def MX8_comeBehind : Mu := (cX8_comeBehind, yX8_comeBehind, 3, (some .int))
def MX8_frees : Mu := (cX8_frees, yX8_frees, 7, (some .int))
def MX8_speltBehind : Mu := (cX8_speltBehind, yX8_speltBehind, 3, (some .int))
def MX8_lost : Mu := (cX8_lost, yX8_lost, 5, (some .int))
def MX8_wider : Mu := (cX8_wider, yX8_wider, 7, (some .int))
def MX8_opened : Mu := (cX8_opened, yX8_opened, 4, (some .int))
def MX8_rolled : Mu := (cX8_rolled, yX8_rolled, 5, (some .int))
def MX8_offBy : Mu := (cX8_offBy, yX8_offBy, 10, (some .long))
def MX8_looked : Mu := (cX8_looked, yX8_looked, 10, (some .int))
def MX8_fee : Mu := (cX8_fee, yX8_fee, 2, (some .int))
def MX8_fine : Mu := (cX8_fine, yX8_fine, 3, (some .int))
def MX8_feed : Mu := (cX8_feed, yX8_feed, 6, (some .int))
def MX8_trim : Mu := (cX8_trim, yX8_trim, 2, (some .int))
def MX8_isLetter : Mu := (cX8_isLetter, yX8_isLetter, 2, (some .boolean))
def MX8_isFigure : Mu := (cX8_isFigure, yX8_isFigure, 2, (some .boolean))
def MX8_go : Mu := (cX8_go, yX8_go, 2, none)
def MX8_takesKey : Mu := (cX8_takesKey, yX8_takesKey, 5, (some .boolean))
def MX8_nameOf : Mu := (cX8_nameOf, yX8_nameOf, 2, (some .int))
def MX8_rank : Mu := (cX8_rank, yX8_rank, 1, (some .int))
def MX8_settle : Mu := (cX8_settle, yX8_settle, 2, none)
def MX8_signHere : Mu := (cX8_signHere, yX8_signHere, 1, (some .int))
def MX8_takesPart : Mu := (cX8_takesPart, yX8_takesPart, 2, (some .boolean))
def MX8_takesE : Mu := (cX8_takesE, yX8_takesE, 5, (some .boolean))
def MX8_notsOpen : Mu := (cX8_notsOpen, yX8_notsOpen, 3, (some .int))
def MX8_text : Mu := (cX8_text, yX8_text, 4, (some .int))
def MX8_textTold : Mu := (cX8_textTold, yX8_textTold, 3, (some .int))
def MX8_counts : Mu := (cX8_counts, yX8_counts, 3, (some .int))
def MX8_why : Mu := (cX8_why, yX8_why, 3, (some .int))
def MX8_two : Mu := (cX8_two, yX8_two, 3, (some .int))
def MX8_worksOut : Mu := (cX8_worksOut, yX8_worksOut, 6, (some .int))
def MX8_isSheet : Mu := (cX8_isSheet, yX8_isSheet, 1, (some .boolean))
def MX8_isSlot : Mu := (cX8_isSlot, yX8_isSlot, 1, (some .boolean))
def MX8_sheet : Mu := (cX8_sheet, yX8_sheet, 5, (some .int))
def MX8_mark : Mu := (cX8_mark, yX8_mark, 4, (some .int))
def MX8_pour : Mu := (cX8_pour, yX8_pour, 6, (some .int))
def MX8_reads : Mu := (cX8_reads, yX8_reads, 4, (some .int))
def MX8_copy : Mu := (cX8_copy, yX8_copy, 7, (some .int))
def MX8_lay : Mu := (cX8_lay, yX8_lay, 6, (some .int))
def MX8_ask : Mu := (cX8_ask, yX8_ask, 3, (some .int))
def MX8_item : Mu := (cX8_item, yX8_item, 4, (some .int))
def MX8_rest : Mu := (cX8_rest, yX8_rest, 3, (some .int))
def MX8_tell : Mu := (cX8_tell, yX8_tell, 2, (some .int))
def MX8_allReaches : Mu := (cX8_allReaches, yX8_allReaches, 3, (some .int))
def MX8_check : Mu := (cX8_check, yX8_check, 6, (some .int))
def MX8_keep : Mu := (cX8_keep, yX8_keep, 1, (some .int))
def MX8_back : Mu := (cX8_back, yX8_back, 1, (some .int))
def MX8_count : Mu := (cX8_count, yX8_count, 2, (some .int))
def MJ6_bitCount_0f7a4 : Mu := (cJ6_bitCount_0f7a4, yJ6_bitCount_0f7a4, 1, (some .int))
def MJ0_length_8abf5 : Mu := (cJ0_length_8abf5, yJ0_length_8abf5, 1, (some .int))
def MJ0_charAt_5068e : Mu := (cJ0_charAt_5068e, yJ0_charAt_5068e, 2, (some .char))
def MJ0_indexOf_0f7a4 : Mu := (cJ0_indexOf_0f7a4, yJ0_indexOf_0f7a4, 2, (some .int))
def MJ0_indexOf_7cf53 : Mu := (cJ0_indexOf_7cf53, yJ0_indexOf_7cf53, 3, (some .int))
def MJ0_coder_7d493 : Mu := (cJ0_coder_7d493, yJ0_coder_7d493, 1, (some .byte))
def MJ0_isLatin1_aae02 : Mu := (cJ0_isLatin1_aae02, yJ0_isLatin1_aae02, 1, (some .boolean))
def MJ0_checkIndex_df160 : Mu := (cJ0_checkIndex_df160, yJ0_checkIndex_df160, 2, none)
def MJ1_charAt_3b067 : Mu := (cJ1_charAt_3b067, yJ1_charAt_3b067, 2, (some .char))
def MJ1_canEncode_9a6ad : Mu := (cJ1_canEncode_9a6ad, yJ1_canEncode_9a6ad, 1, (some .boolean))
def MJ1_indexOf_4cfef : Mu := (cJ1_indexOf_4cfef, yJ1_indexOf_4cfef, 4, (some .int))
def MJ1_indexOfChar_4cfef : Mu := (cJ1_indexOfChar_4cfef, yJ1_indexOfChar_4cfef, 6, (some .int))
def MJ3_checkIndex_8e157 : Mu := (cJ3_checkIndex_8e157, yJ3_checkIndex_8e157, 3, (some .int))
def ML_law : Mu := (code, x, maxLocals, ret)
def rslT_0 : List (Nat × Nat × String × Mu × Nat × Option String × List Nat) := [(18, 0, RX0, MX7_hold, 3, some "LogLetters", [377, 39, 841, 376]), (41, 0, RX0, MX0_valueOf, 4, none, [371, 48, 369, 370]), (45, 0, RX0, MX0_joined, 3, none, [374, 48, 372, 373]), (27, 0, RX1, MX7_isReach, 1, some "LogLetters", [421, 39, 481, 420]), (35, 0, RX1, MX7_isKind, 1, some "LogLetters", [320, 39, 405, 319]), (11, 2, RX2, MX6_init, 0, some "LogLetters", [178, 43, 176, 177]), (60, 1, RX2, MX2_begin, 0, none, [647, 42, 644, 645, 646]), (63, 1, RX2, MX2_nextWord, 0, none, [651, 42, 648, 649, 650]), (67, 1, RX2, MX2_takesKey, 0, none, [663, 42, 660, 661, 662]), (70, 1, RX2, MX2_goesOn, 0, none, [722, 42, 719, 720, 721]), (73, 1, RX2, MX2_closeBangs, 0, none, [834, 42, 831, 832, 833]), (79, 1, RX2, MX2_closeDownTo, 1, none, [819, 42, 816, 817, 818]), (85, 2, RX2, MX0_init, 4, none, [839, 48, 837, 838]), (88, 1, RX2, MX6_byteAt, 1, none, [655, 43, 652, 653, 654]), (92, 0, RX2, MX2_sortOf, 1, none, [658, 42, 656, 657]), (95, 0, RX2, MX7_within, 3, some "LogLetters", [323, 39, 659, 322]), (101, 1, RX2, MX2_isWord, 1, none, [668, 42, 665, 666, 667]), (109, 1, RX2, MJ0_length_8abf5, 0, none, [672, 51, 669, 670, 671]), (115, 1, RX2, MJ0_charAt_5068e, 1, none, [682, 51, 679, 680, 681]), (119, 1, RX2, MX2_takesPiece, 1, none, [726, 42, 723, 724, 725]), (123, 1, RX2, MX2_takesSign, 1, none, [811, 42, 808, 809, 810]), (126, 1, RX2, MX2_takesNumber, 0, none, [730, 42, 727, 728, 729]), (129, 1, RX2, MX2_takesName, 1, none, [742, 42, 739, 740, 741]), (132, 1, RX2, MX2_push, 1, none, [807, 42, 804, 805, 806]), (135, 1, RX2, MX2_addPiece, 1, none, [734, 42, 731, 732, 733]), (138, 0, RX2, MX2_namesOf, 1, none, [745, 42, 743, 744]), (142, 1, RX2, MJ0_indexOf_0f7a4, 1, none, [752, 51, 749, 750, 751]), (151, 1, RX2, MX2_closesBracket, 0, none, [815, 42, 812, 813, 814]), (154, 0, RX2, MX2_levelOf, 1, none, [826, 42, 824, 825]), (157, 1, RX2, MX2_pop, 0, none, [830, 42, 827, 828, 829]), (160, 1, RX2, MX2_addCode, 1, none, [738, 42, 735, 736, 737]), (163, 1, RX2, MX2_topSign, 0, none, [823, 42, 820, 821, 822]), (67, 2, RX3, MX1_init, 0, some "LogLetters", [77, 41, 75, 76]), (74, 1, RX3, MX1_takeOver, 1, none, [555, 41, 552, 553, 554]), (78, 0, RX3, MX7_within, 3, some "LogLetters", [323, 39, 344, 322]), (97, 1, RX3, MX3_draw, 0, none, [454, 40, 451, 452, 453]), (101, 1, RX3, MX3_addLog, 3, none, [334, 40, 456, 332, 333]), (104, 1, RX3, MX3_lawAt, 1, none, [356, 40, 353, 354, 355]), (112, 1, RX3, MX3_lawNumberFor, 1, none, [352, 40, 349, 350, 351]), (123, 1, RX3, MX0_give, 3, none, [368, 48, 365, 366, 367])]
def rslT_1 : List (Nat × Nat × String × Mu × Nat × Option String × List Nat) := [(127, 0, RX3, MX7_hold, 3, some "LogLetters", [377, 39, 375, 376]), (130, 1, RX3, MX1_driftFrom, 2, none, [385, 41, 382, 383, 384]), (133, 1, RX3, MX3_passWeek, 0, none, [472, 40, 469, 470, 471]), (136, 1, RX3, MX3_countHeld, 0, none, [476, 40, 473, 474, 475]), (139, 1, RX3, MX3_lawFor, 1, none, [348, 40, 482, 346, 347]), (142, 1, RX3, MX3_carryFrom, 2, none, [486, 40, 483, 484, 485]), (146, 1, RX3, MX3_sawByLot, 1, none, [500, 40, 497, 498, 499]), (150, 1, RX3, MX1_isAfloat, 0, none, [480, 41, 477, 478, 479]), (154, 1, RX3, MX3_driftOf, 2, none, [361, 40, 487, 359, 360]), (158, 1, RX3, MX3_carry, 2, none, [491, 40, 488, 489, 490]), (162, 1, RX3, MX3_mayLeave, 1, none, [495, 40, 492, 493, 494]), (166, 0, RX3, MX7_isReach, 1, some "LogLetters", [421, 39, 496, 420]), (169, 1, RX3, MX3_hasLog, 1, none, [343, 40, 501, 341, 342]), (172, 1, RX3, MX1_claimedBy, 1, none, [390, 41, 502, 388, 389]), (175, 1, RX3, MX3_unusedWith, 2, none, [522, 40, 519, 520, 521]), (178, 0, RX3, MJ6_bitCount_0f7a4, 1, none, [525, 49, 523, 524]), (28, 1, RX4, MX4_hasPlace, 1, none, [610, 44, 607, 608, 609]), (33, 0, RX4, MX7_within, 3, some "LogLetters", [323, 39, 908, 322]), (11, 2, RX5, MX1_init, 0, some "LogLetters", [77, 41, 263, 76]), (20, 2, RX5, MX4_init, 0, some "LogLetters", [242, 44, 265, 241]), (9, 2, RX7, MX3_init, 0, none, [68, 40, 66, 67]), (27, 2, RX7, MX2_init, 0, some "LogLetters", [172, 42, 170, 171]), (56, 2, RX7, MX4_init, 0, some "LogLetters", [242, 44, 240, 241]), (57, 2, RX7, MX5_init, 0, some "LogLetters", [260, 45, 258, 259]), (58, 0, RX7, MX7_isKind, 1, none, [320, 39, 318, 319]), (62, 0, RX7, MX7_isLetter, 1, none, [326, 39, 324, 325]), (65, 0, RX7, MX7_isMass, 1, none, [329, 39, 327, 328]), (69, 1, RX7, MX3_addLog, 3, none, [334, 40, 331, 332, 333]), (77, 1, RX7, MX3_hasLog, 1, none, [343, 40, 340, 341, 342]), (101, 1, RX7, MX3_lawFor, 1, none, [348, 40, 345, 346, 347]), (105, 1, RX7, MX3_driftOf, 2, none, [361, 40, 358, 359, 360]), (112, 1, RX7, MX1_claimedBy, 1, none, [390, 41, 387, 388, 389]), (116, 1, RX7, MX1_worth, 0, none, [394, 41, 391, 392, 393]), (120, 1, RX7, MX1_isOf, 1, none, [402, 41, 399, 400, 401]), (124, 0, RX7, MX7_isReach, 1, none, [421, 39, 419, 420]), (128, 0, RX7, MX7_within, 3, none, [323, 39, 321, 322]), (143, 1, RX7, MX3_addLetter, 1, none, [438, 40, 435, 436, 437]), (155, 1, RX7, MX3_drawLog, 0, none, [450, 40, 447, 448, 449]), (167, 1, RX7, MX3_passWeeks, 1, none, [468, 40, 465, 466, 467]), (171, 1, RX7, MX3_letterRead, 1, none, [510, 40, 507, 508, 509])]
def rslT_2 : List (Nat × Nat × String × Mu × Nat × Option String × List Nat) := [(174, 1, RX7, MX3_spelt, 0, none, [518, 40, 515, 516, 517]), (177, 1, RX7, MX3_jammed, 0, none, [532, 40, 529, 530, 531]), (183, 1, RX7, MX3_afloat, 0, none, [536, 40, 533, 534, 535]), (186, 1, RX7, MX7_startThought, 0, none, [544, 39, 541, 543, 0]), (189, 1, RX7, MX3_passWeek, 0, none, [472, 40, 560, 470, 471]), (193, 1, RX7, MX1_isAfloat, 0, none, [480, 41, 566, 478, 479]), (197, 1, RX7, MX7_startThoughtWithout, 1, none, [570, 39, 567, 569, 1]), (200, 1, RX7, MX3_takeOver, 1, none, [548, 40, 545, 546, 547]), (204, 0, RX7, MX7_isSheet, 1, none, [593, 39, 591, 592]), (207, 1, RX7, MX4_isMissing, 0, none, [597, 44, 594, 595, 596]), (211, 1, RX7, MX7_apartWithMass, 3, none, [602, 39, 599, 601, 2]), (215, 1, RX7, MX0_give, 3, none, [368, 48, 619, 366, 367]), (230, 1, RX7, MX6_addBytesOf, 1, none, [631, 43, 628, 629, 630]), (233, 1, RX7, MX2_readLaw, 0, none, [643, 42, 640, 641, 642]), (240, 1, RX7, MX3_addLaw, 1, none, [863, 40, 860, 861, 862]), (247, 1, RX7, MX3_lawAt, 1, none, [356, 40, 868, 354, 355]), (256, 1, RX7, MX3_lawNumberFor, 1, none, [352, 40, 873, 350, 351]), (260, 1, RX7, MX4_become, 2, none, [882, 44, 879, 880, 881]), (265, 1, RX7, MX4_hasPlace, 1, none, [610, 44, 887, 608, 609]), (277, 1, RX7, MX4_hasNumber, 1, none, [606, 44, 603, 604, 605]), (280, 0, RX7, MX7_hold, 3, none, [377, 39, 895, 376]), (283, 1, RX7, MX4_hasPlaces, 2, none, [907, 44, 904, 905, 906]), (293, 0, RX7, MX7_isSlot, 1, none, [916, 39, 914, 915]), (303, 1, RX7, MX1_takeOver, 1, none, [555, 41, 917, 553, 554]), (310, 1, RX7, MX4_takeOver, 1, none, [921, 44, 918, 919, 920]), (316, 1, RX7, MX5_findingFor, 1, none, [930, 45, 927, 928, 929]), (319, 1, RX7, MX7_isWaiting, 3, none, [952, 39, 949, 951, 3]), (322, 1, RX7, MX3_reachesTogether, 0, none, [956, 40, 953, 954, 955]), (75, 0, RX8, MX8_in, 3, none, [1083, 46, 1081, 1082]), (79, 1, RX8, MX8_put, 3, none, [1093, 46, 1090, 1092, 5]), (85, 1, RX8, MX8_comes, 3, none, [1089, 46, 1086, 1088, 4]), (89, 1, RX8, MX8_counts, 1, none, [1113, 46, 1110, 1112, 9]), (93, 1, RX8, MX8_of, 2, none, [1105, 46, 1102, 1104, 7]), (97, 1, RX8, MX8_worksOut, 1, none, [1117, 46, 1114, 1116, 10]), (100, 0, RX8, MX8_within, 3, none, [1123, 46, 1121, 1122]), (103, 1, RX8, MX8_isLog, 1, none, [1101, 46, 1098, 1100, 6]), (107, 1, RX8, MX8_driftsOf, 1, none, [1109, 46, 1106, 1108, 8]), (110, 1, RX8, MX8_claimedOf, 1, none, [1127, 46, 1124, 1126, 11]), (113, 1, RX8, MX8_worthOf, 1, none, [1131, 46, 1128, 1130, 12]), (116, 0, RX8, MX8_isUnder, 2, none, [1138, 46, 1136, 1137])]
def rslT_3 : List (Nat × Nat × String × Mu × Nat × Option String × List Nat) := [(121, 1, RX8, MX8_becomes, 2, none, [1147, 46, 1144, 1146, 13]), (124, 0, RX8, MX8_isReach, 1, none, [1158, 46, 1156, 1157]), (129, 1, RX8, MX8_draw, 0, none, [1183, 46, 1180, 1182, 14]), (133, 1, RX8, MX8_manyAt, 1, none, [1196, 46, 1193, 1195, 15]), (136, 1, RX8, MX8_goesDown, 1, none, [1208, 46, 1205, 1207, 18]), (140, 1, RX8, MX8_saws, 0, none, [1212, 46, 1209, 1211, 19]), (143, 1, RX8, MX8_week, 0, none, [1204, 46, 1201, 1203, 17]), (146, 1, RX8, MX8_goesOn, 1, none, [1200, 46, 1197, 1199, 16]), (150, 1, RX8, MX8_spelt, 0, none, [1225, 46, 1222, 1224, 20]), (153, 1, RX8, MX8_jam, 0, none, [1229, 46, 1226, 1228, 21]), (156, 1, RX8, MX8_thinks, 0, none, [1237, 46, 1234, 1236, 22]), (159, 1, RX8, MX8_putsBack, 0, none, [1241, 46, 1238, 1240, 23]), (162, 1, RX8, MX8_comeBehind, 1, none, [1253, 46, 1250, 1252, 24]), (165, 1, RX8, MX8_speltBehind, 1, none, [1261, 46, 1258, 1260, 25]), (168, 0, RX8, MX8_isSheet, 1, none, [1280, 46, 1278, 1279]), (172, 1, RX8, MX8_offBy, 3, none, [1285, 46, 1282, 1284, 26]), (192, 1, RX8, MX8_isLetter, 1, none, [1313, 46, 1310, 1312, 28]), (198, 1, RX8, MX8_isFigure, 1, none, [1317, 46, 1314, 1316, 29]), (204, 1, RX8, MX8_go, 0, none, [1309, 46, 1306, 1308, 27]), (210, 0, RX8, MX8_rank, 1, none, [1340, 46, 1338, 1339]), (216, 1, RX8, MX8_nameOf, 1, none, [1333, 46, 1330, 1332, 33]), (222, 1, RX8, MX8_settle, 1, none, [1337, 46, 1334, 1336, 34]), (225, 1, RX8, MX8_takesPart, 0, none, [1329, 46, 1326, 1328, 32]), (229, 1, RX8, MX8_notsOpen, 0, none, [1344, 46, 1341, 1343, 35]), (232, 1, RX8, MX8_signHere, 0, none, [1348, 46, 1345, 1347, 36]), (235, 1, RX8, MX8_takesKey, 0, none, [1321, 46, 1318, 1320, 30]), (238, 1, RX8, MX8_takesE, 0, none, [1325, 46, 1322, 1324, 31]), (241, 0, RX8, MX8_two, 3, none, [1120, 46, 1118, 1119]), (248, 0, RX8, MX8_isSlot, 1, none, [1387, 46, 1385, 1386]), (258, 0, RX8, MX8_copyAll, 2, none, [1410, 46, 1408, 1409]), (262, 1, RX8, MX8_allReaches, 0, none, [1414, 46, 1411, 1413, 37]), (335, 1, RJ0, MJ0_coder_7d493, 0, none, [676, 51, 673, 674, 675]), (492, 1, RJ0, MJ0_isLatin1_aae02, 0, none, [686, 51, 683, 684, 685]), (495, 0, RJ0, MJ1_charAt_3b067, 2, none, [689, 52, 687, 688]), (633, 1, RJ0, MJ0_indexOf_7cf53, 2, none, [756, 51, 753, 754, 755]), (505, 1, RJ0, MJ0_length_8abf5, 0, none, [672, 51, 757, 670, 671]), (637, 0, RJ0, MJ1_indexOf_4cfef, 4, none, [760, 52, 758, 759]), (1059, 0, RJ0, MJ3_checkIndex_8e157, 3, none, [697, 53, 695, 696]), (9, 0, RJ1, MJ0_checkIndex_df160, 2, none, [692, 51, 690, 691]), (88, 0, RJ1, MJ1_canEncode_9a6ad, 1, none, [763, 52, 761, 762])]
def rslT_4 : List (Nat × Nat × String × Mu × Nat × Option String × List Nat) := [(95, 0, RJ1, MJ1_indexOfChar_4cfef, 4, none, [768, 52, 766, 767]), (9, 2, "LogLettersLaw", MX7_init, 0, none, [60, 39, 58, 59]), (12, 2, "LogLettersLaw", MX8_init, 0, none, [973, 46, 971, 972]), (13, 1, "LogLettersLaw", MX7_log, 3, none, [317, 39, 314, 315, 316]), (17, 1, "LogLettersLaw", MX8_log, 3, none, [1080, 46, 1077, 1078, 1079]), (18, 1, "LogLettersLaw", MX7_told, 2, none, [339, 39, 336, 337, 338]), (22, 1, "LogLettersLaw", MX8_told, 2, none, [1097, 46, 1094, 1095, 1096]), (23, 1, "LogLettersLaw", MX7_as, 2, none, [398, 39, 395, 396, 397]), (26, 1, "LogLettersLaw", MX8_as, 2, none, [1135, 46, 1132, 1133, 1134]), (27, 1, "LogLettersLaw", MX7_turns, 2, none, [410, 39, 407, 408, 409]), (30, 1, "LogLettersLaw", MX8_turns, 2, none, [1143, 46, 1140, 1141, 1142]), (31, 1, "LogLettersLaw", MX7_set, 3, none, [414, 39, 411, 412, 413]), (34, 1, "LogLettersLaw", MX8_set, 3, none, [1151, 46, 1148, 1149, 1150]), (35, 1, "LogLettersLaw", MX7_lays, 2, none, [418, 39, 415, 416, 417]), (38, 1, "LogLettersLaw", MX8_lays, 2, none, [1155, 46, 1152, 1153, 1154]), (39, 1, "LogLettersLaw", MX7_reach, 3, none, [426, 39, 423, 424, 425]), (42, 1, "LogLettersLaw", MX8_reach, 3, none, [1163, 46, 1160, 1161, 1162]), (43, 1, "LogLettersLaw", MX7_rule, 2, none, [430, 39, 427, 428, 429]), (46, 1, "LogLettersLaw", MX8_rule, 2, none, [1167, 46, 1164, 1165, 1166]), (47, 1, "LogLettersLaw", MX7_word, 1, none, [434, 39, 431, 432, 433]), (51, 1, "LogLettersLaw", MX8_word, 1, none, [1171, 46, 1168, 1169, 1170]), (52, 1, "LogLettersLaw", MX7_unword, 0, none, [442, 39, 439, 440, 441]), (56, 1, "LogLettersLaw", MX8_unword, 0, none, [1175, 46, 1172, 1173, 1174]), (57, 1, "LogLettersLaw", MX7_deal, 1, none, [446, 39, 443, 444, 445]), (60, 1, "LogLettersLaw", MX8_deal, 1, none, [1179, 46, 1176, 1177, 1178]), (61, 1, "LogLettersLaw", MX7_seed, 1, none, [460, 39, 457, 458, 459]), (64, 1, "LogLettersLaw", MX8_seed, 1, none, [1188, 46, 1185, 1186, 1187]), (65, 1, "LogLettersLaw", MX7_weeks, 1, none, [464, 39, 461, 462, 463]), (68, 1, "LogLettersLaw", MX8_weeks, 1, none, [1192, 46, 1189, 1190, 1191]), (69, 1, "LogLettersLaw", MX7_read, 1, none, [506, 39, 503, 504, 505]), (72, 1, "LogLettersLaw", MX8_read, 1, none, [1216, 46, 1213, 1214, 1215]), (73, 1, "LogLettersLaw", MX7_river, 1, none, [514, 39, 511, 512, 513]), (76, 1, "LogLettersLaw", MX8_river, 1, none, [1221, 46, 1218, 1219, 1220]), (77, 1, "LogLettersLaw", MX7_behind, 2, none, [540, 39, 537, 538, 539]), (80, 1, "LogLettersLaw", MX8_behind, 2, none, [1233, 46, 1230, 1231, 1232]), (81, 1, "LogLettersLaw", MX7_whole, 0, none, [559, 39, 556, 557, 558]), (84, 1, "LogLettersLaw", MX8_whole, 0, none, [1245, 46, 1242, 1243, 1244]), (85, 1, "LogLettersLaw", MX7_frees, 2, none, [565, 39, 562, 563, 564]), (88, 1, "LogLettersLaw", MX8_frees, 2, none, [1249, 46, 1246, 1247, 1248]), (89, 1, "LogLettersLaw", MX7_lost, 1, none, [574, 39, 571, 572, 573])]
def rslT_5 : List (Nat × Nat × String × Mu × Nat × Option String × List Nat) := [(92, 1, "LogLettersLaw", MX8_lost, 1, none, [1257, 46, 1254, 1255, 1256]), (93, 1, "LogLettersLaw", MX7_wider, 2, none, [578, 39, 575, 576, 577]), (96, 1, "LogLettersLaw", MX8_wider, 2, none, [1265, 46, 1262, 1263, 1264]), (97, 1, "LogLettersLaw", MX7_opened, 1, none, [582, 39, 579, 580, 581]), (100, 1, "LogLettersLaw", MX8_opened, 1, none, [1269, 46, 1266, 1267, 1268]), (101, 1, "LogLettersLaw", MX7_rolled, 2, none, [586, 39, 583, 584, 585]), (104, 1, "LogLettersLaw", MX8_rolled, 2, none, [1273, 46, 1270, 1271, 1272]), (105, 1, "LogLettersLaw", MX7_looked, 3, none, [590, 39, 587, 588, 589]), (108, 1, "LogLettersLaw", MX8_looked, 3, none, [1277, 46, 1274, 1275, 1276]), (109, 1, "LogLettersLaw", MX7_fee, 0, none, [618, 39, 615, 616, 617]), (112, 1, "LogLettersLaw", MX8_fee, 0, none, [1289, 46, 1286, 1287, 1288]), (113, 1, "LogLettersLaw", MX7_fine, 1, none, [623, 39, 620, 621, 622]), (116, 1, "LogLettersLaw", MX8_fine, 1, none, [1293, 46, 1290, 1291, 1292]), (117, 1, "LogLettersLaw", MX7_feed, 3, none, [627, 39, 624, 625, 626]), (120, 1, "LogLettersLaw", MX8_feed, 3, none, [1297, 46, 1294, 1295, 1296]), (121, 1, "LogLettersLaw", MX7_trim, 1, none, [635, 39, 632, 633, 634]), (124, 1, "LogLettersLaw", MX8_trim, 1, none, [1301, 46, 1298, 1299, 1300]), (125, 1, "LogLettersLaw", MX7_text, 0, none, [639, 39, 636, 637, 638]), (128, 1, "LogLettersLaw", MX8_text, 0, none, [1305, 46, 1302, 1303, 1304]), (129, 1, "LogLettersLaw", MX7_textTold, 2, none, [867, 39, 864, 865, 866]), (132, 1, "LogLettersLaw", MX8_textTold, 2, none, [1352, 46, 1349, 1350, 1351]), (133, 1, "LogLettersLaw", MX7_why, 1, none, [872, 39, 869, 870, 871]), (136, 1, "LogLettersLaw", MX8_why, 1, none, [1356, 46, 1353, 1354, 1355]), (137, 1, "LogLettersLaw", MX7_sheet, 3, none, [877, 39, 874, 875, 876]), (140, 1, "LogLettersLaw", MX8_sheet, 3, none, [1360, 46, 1357, 1358, 1359]), (141, 1, "LogLettersLaw", MX7_mark, 3, none, [886, 39, 883, 884, 885]), (144, 1, "LogLettersLaw", MX8_mark, 3, none, [1365, 46, 1362, 1363, 1364]), (145, 1, "LogLettersLaw", MX7_pour, 1, none, [894, 39, 891, 892, 893]), (148, 1, "LogLettersLaw", MX8_pour, 1, none, [1372, 46, 1369, 1370, 1371]), (149, 1, "LogLettersLaw", MX7_reads, 1, none, [899, 39, 896, 897, 898]), (152, 1, "LogLettersLaw", MX8_reads, 1, none, [1376, 46, 1373, 1374, 1375]), (153, 1, "LogLettersLaw", MX7_copy, 5, none, [903, 39, 900, 901, 902]), (157, 1, "LogLettersLaw", MX8_copy, 5, none, [1380, 46, 1377, 1378, 1379]), (158, 1, "LogLettersLaw", MX7_lay, 3, none, [913, 39, 910, 911, 912]), (161, 1, "LogLettersLaw", MX8_lay, 3, none, [1384, 46, 1381, 1382, 1383]), (162, 1, "LogLettersLaw", MX7_ask, 2, none, [926, 39, 923, 924, 925]), (165, 1, "LogLettersLaw", MX8_ask, 2, none, [1391, 46, 1388, 1389, 1390]), (166, 1, "LogLettersLaw", MX7_item, 2, none, [936, 39, 933, 934, 935]), (169, 1, "LogLettersLaw", MX8_item, 2, none, [1395, 46, 1392, 1393, 1394]), (170, 1, "LogLettersLaw", MX7_rest, 2, none, [940, 39, 937, 938, 939])]
def rslT_6 : List (Nat × Nat × String × Mu × Nat × Option String × List Nat) := [(173, 1, "LogLettersLaw", MX8_rest, 2, none, [1399, 46, 1396, 1397, 1398]), (174, 1, "LogLettersLaw", MX7_tell, 1, none, [944, 39, 941, 942, 943]), (177, 1, "LogLettersLaw", MX8_tell, 1, none, [1403, 46, 1400, 1401, 1402]), (178, 1, "LogLettersLaw", MX7_check, 1, none, [948, 39, 945, 946, 947]), (181, 1, "LogLettersLaw", MX8_check, 1, none, [1407, 46, 1404, 1405, 1406]), (182, 1, "LogLettersLaw", MX7_keep, 0, none, [960, 39, 957, 958, 959]), (185, 1, "LogLettersLaw", MX8_keep, 0, none, [1418, 46, 1415, 1416, 1417]), (186, 1, "LogLettersLaw", MX7_back, 0, none, [964, 39, 961, 962, 963]), (189, 1, "LogLettersLaw", MX8_back, 0, none, [1422, 46, 1419, 1420, 1421]), (190, 1, "LogLettersLaw", MX7_count, 1, none, [968, 39, 965, 966, 967]), (193, 1, "LogLettersLaw", MX8_count, 1, none, [1426, 46, 1423, 1424, 1425])]
def rslT : List (Nat × Nat × String × Mu × Nat × Option String × List Nat) := rslT_0 ++ (rslT_1 ++ (rslT_2 ++ (rslT_3 ++ (rslT_4 ++ (rslT_5 ++ (rslT_6))))))
def fldT_0 : List (Nat × String × String × String × String × Nat × Nat × Nat) := [(9, RX0, "LogLetters$Law", "key", "I", 0, 0, 844), (15, RX0, "LogLetters$Law", "pieces", "I", 0, 1, 847), (22, RX0, "LogLetters$Law", "code", "[I", 0, 2, 849), (38, RX0, "LogLetters$Law", "stack", "[I", 0, 3, 850), (9, RX1, "LogLetters$Log", "kind", "I", 1, 0, 79), (15, RX1, "LogLetters$Log", "letter", "I", 1, 1, 82), (18, RX1, "LogLetters$Log", "mass", "I", 1, 2, 85), (21, RX1, "LogLetters$Log", "reach", "I", 1, 3, 88), (24, RX1, "LogLetters$Log", "came", "I", 1, 4, 91), (12, RX2, "LogLetters$Reader", "tape", "LLogLetters$Tape;", 2, 0, 190), (18, RX2, "LogLetters$Reader", "code", "[I", 2, 1, 192), (22, RX2, "LogLetters$Reader", "open", "[I", 2, 2, 193), (25, RX2, "LogLetters$Reader", "fault", "I", 2, 3, 194), (29, RX2, "LogLetters$Reader", "codeSize", "I", 2, 4, 196), (32, RX2, "LogLetters$Reader", "openSize", "I", 2, 5, 197), (35, RX2, "LogLetters$Reader", "key", "I", 2, 6, 198), (38, RX2, "LogLetters$Reader", "pieces", "I", 2, 7, 199), (41, RX2, "LogLetters$Reader", "brackets", "I", 2, 8, 200), (44, RX2, "LogLetters$Reader", "bangs", "I", 2, 9, 201), (47, RX2, "LogLetters$Reader", "tested", "I", 2, 10, 202), (50, RX2, "LogLetters$Reader", "wantsPiece", "Z", 2, 11, 203), (54, RX2, "LogLetters$Reader", "start", "I", 2, 12, 204), (57, RX2, "LogLetters$Reader", "end", "I", 2, 13, 205), (76, RX2, "LogLetters$Tape", "size", "I", 6, 1, 182), (11, RX3, "LogLetters$River", "logs", "[LLogLetters$Log;", 3, 0, 106), (17, RX3, "LogLetters$River", "room", "[I", 3, 1, 108), (21, RX3, "LogLetters$River", "boom", "[I", 3, 2, 110), (24, RX3, "LogLetters$River", "held", "[I", 3, 3, 112), (27, RX3, "LogLetters$River", "letters", "[I", 3, 4, 113), (32, RX3, "LogLetters$River", "laws", "[LLogLetters$Law;", 3, 5, 114), (36, RX3, "LogLetters$River", "logCount", "I", 3, 6, 115), (40, RX3, "LogLetters$River", "letterCount", "I", 3, 7, 117), (43, RX3, "LogLetters$River", "lawCount", "I", 3, 8, 119), (46, RX3, "LogLetters$River", "flood", "I", 3, 9, 121), (49, RX3, "LogLetters$River", "saw", "I", 3, 10, 123), (52, RX3, "LogLetters$River", "dry", "I", 3, 11, 125), (55, RX3, "LogLetters$River", "sawn", "I", 3, 12, 127), (58, RX3, "LogLetters$River", "comeCount", "I", 3, 13, 129), (61, RX3, "LogLetters$River", "week", "I", 3, 14, 131), (64, RX3, "LogLetters$River", "z", "I", 3, 15, 133)]
def fldT_1 : List (Nat × String × String × String × String × Nat × Nat × Nat) := [(82, RX3, "LogLetters$Log", "kind", "I", 1, 0, 81), (85, RX3, "LogLetters$Log", "letter", "I", 1, 1, 84), (88, RX3, "LogLetters$Log", "mass", "I", 1, 2, 87), (91, RX3, "LogLetters$Log", "reach", "I", 1, 3, 90), (94, RX3, "LogLetters$Log", "came", "I", 1, 4, 93), (108, RX3, "LogLetters$Law", "key", "I", 0, 0, 845), (9, RX4, "LogLetters$Row", "places", "[I", 4, 0, 244), (15, RX4, "LogLetters$Row", "sort", "I", 4, 1, 246), (19, RX4, "LogLetters$Row", "size", "I", 4, 2, 248), (12, RX5, "LogLetters$Slot", "log", "LLogLetters$Log;", 5, 0, 266), (21, RX5, "LogLetters$Slot", "row", "LLogLetters$Row;", 5, 1, 268), (25, RX5, "LogLetters$Slot", "thing", "I", 5, 2, 270), (29, RX5, "LogLetters$Slot", "number", "I", 5, 3, 272), (9, RX6, "LogLetters$Tape", "bytes", "[B", 6, 0, 180), (15, RX6, "LogLetters$Tape", "size", "I", 6, 1, 181), (10, RX7, "LogLetters", "river", "LLogLetters$River;", 7, 0, 283), (16, RX7, "LogLetters", "image", "LLogLetters$River;", 7, 1, 284), (19, RX7, "LogLetters", "thought", "LLogLetters$River;", 7, 2, 285), (22, RX7, "LogLetters", "fork", "LLogLetters$River;", 7, 3, 286), (28, RX7, "LogLetters", "reader", "LLogLetters$Reader;", 7, 4, 287), (34, RX7, "LogLetters", "sheets", "[LLogLetters$Row;", 7, 5, 288), (40, RX7, "LogLetters", "slots", "[LLogLetters$Slot;", 7, 6, 289), (44, RX7, "LogLetters", "waiting", "[I", 7, 7, 290), (48, RX7, "LogLetters", "waitingCount", "I", 7, 8, 291), (52, RX7, "LogLetters", "hasImage", "Z", 7, 9, 292), (73, RX7, "LogLetters$River", "logCount", "I", 3, 6, 116), (80, RX7, "LogLetters$River", "logs", "[LLogLetters$Log;", 3, 0, 107), (84, RX7, "LogLetters$Log", "kind", "I", 1, 0, 80), (89, RX7, "LogLetters$Log", "letter", "I", 1, 1, 83), (92, RX7, "LogLetters$Log", "mass", "I", 1, 2, 86), (95, RX7, "LogLetters$Log", "reach", "I", 1, 3, 89), (98, RX7, "LogLetters$Log", "came", "I", 1, 4, 92), (109, RX7, "LogLetters$River", "saw", "I", 3, 10, 124), (131, RX7, "LogLetters$River", "room", "[I", 3, 1, 109), (134, RX7, "LogLetters$River", "boom", "[I", 3, 2, 111), (137, RX7, "LogLetters$River", "dry", "I", 3, 11, 126), (140, RX7, "LogLetters$River", "flood", "I", 3, 9, 122), (146, RX7, "LogLetters$River", "letterCount", "I", 3, 7, 118), (158, RX7, "LogLetters$River", "z", "I", 3, 15, 134), (161, RX7, "LogLetters$River", "comeCount", "I", 3, 13, 130)]
def fldT_2 : List (Nat × String × String × String × String × Nat × Nat × Nat) := [(164, RX7, "LogLetters$River", "week", "I", 3, 14, 132), (180, RX7, "LogLetters$River", "sawn", "I", 3, 12, 128), (221, RX7, "LogLetters$Reader", "tape", "LLogLetters$Tape;", 2, 0, 191), (225, RX7, "LogLetters$Tape", "size", "I", 6, 1, 183), (237, RX7, "LogLetters$Reader", "fault", "I", 2, 3, 195), (244, RX7, "LogLetters$River", "lawCount", "I", 3, 8, 120), (250, RX7, "LogLetters$Law", "key", "I", 0, 0, 846), (253, RX7, "LogLetters$Law", "pieces", "I", 0, 1, 848), (264, RX7, "LogLetters$Row", "size", "I", 4, 2, 249), (269, RX7, "LogLetters$Row", "sort", "I", 4, 1, 247), (272, RX7, "LogLetters$Row", "places", "[I", 4, 0, 245), (296, RX7, "LogLetters$Slot", "thing", "I", 5, 2, 271), (299, RX7, "LogLetters$Slot", "log", "LLogLetters$Log;", 5, 0, 267), (306, RX7, "LogLetters$Slot", "row", "LLogLetters$Row;", 5, 1, 269), (313, RX7, "LogLetters$Slot", "number", "I", 5, 3, 273), (9, RX8, "LogLettersModel", "now", "[I", 8, 0, 975), (13, RX8, "LogLettersModel", "image", "[I", 8, 1, 976), (16, RX8, "LogLettersModel", "aside", "[I", 8, 2, 977), (19, RX8, "LogLettersModel", "before", "[I", 8, 4, 979), (22, RX8, "LogLettersModel", "tape", "[I", 8, 5, 980), (25, RX8, "LogLettersModel", "keys", "[C", 8, 13, 988), (29, RX8, "LogLettersModel", "keyAt", "[I", 8, 14, 989), (32, RX8, "LogLettersModel", "code", "[I", 8, 15, 990), (35, RX8, "LogLettersModel", "waits", "[I", 8, 18, 993), (38, RX8, "LogLettersModel", "tested", "[Z", 8, 20, 995), (42, RX8, "LogLettersModel", "stack", "[I", 8, 21, 996), (45, RX8, "LogLettersModel", "facts", "[I", 8, 22, 997), (48, RX8, "LogLettersModel", "sorts", "[I", 8, 23, 998), (51, RX8, "LogLettersModel", "sizes", "[I", 8, 24, 999), (54, RX8, "LogLettersModel", "cells", "[I", 8, 25, 1000), (57, RX8, "LogLettersModel", "holds", "[I", 8, 26, 1001), (60, RX8, "LogLettersModel", "holdsA", "[I", 8, 27, 1002), (63, RX8, "LogLettersModel", "holdsB", "[I", 8, 28, 1003), (66, RX8, "LogLettersModel", "heldCells", "[I", 8, 29, 1004), (69, RX8, "LogLettersModel", "moved", "[I", 8, 30, 1005), (72, RX8, "LogLettersModel", "tells", "[I", 8, 31, 1006), (176, RX8, "LogLettersModel", "taped", "I", 8, 6, 981), (180, RX8, "LogLettersModel", "next", "I", 8, 7, 982), (183, RX8, "LogLettersModel", "from", "I", 8, 8, 983), (186, RX8, "LogLettersModel", "ended", "I", 8, 11, 986)]
def fldT_3 : List (Nat × String × String × String × String × Nat × Nat × Nat) := [(189, RX8, "LogLettersModel", "token", "I", 8, 9, 984), (195, RX8, "LogLettersModel", "value", "I", 8, 10, 985), (201, RX8, "LogLettersModel", "key", "I", 8, 12, 987), (207, RX8, "LogLettersModel", "held", "I", 8, 19, 994), (213, RX8, "LogLettersModel", "codes", "I", 8, 16, 991), (219, RX8, "LogLettersModel", "atoms", "I", 8, 17, 992), (251, RX8, "LogLettersModel", "waiting", "I", 8, 32, 1007), (254, RX8, "LogLettersModel", "hasImage", "Z", 8, 3, 978), (9, RJ0, "java/lang/String", "value", "[B", 20, 1, 1427), (15, RJ0, "java/lang/String", "coder", "B", 20, 0, 1428)]
def fldT : List (Nat × String × String × String × String × Nat × Nat × Nat) := fldT_0 ++ (fldT_1 ++ (fldT_2 ++ (fldT_3)))
def cstT_0 : List (Nat × String × Int32 × Nat) := [(111, RX3, -1000000005, 357), (116, RX3, 1103515245, 455), (32, RX4, -1000000005, 611), (32, RX5, -1000000011, 931), (33, RX5, -1000000012, 932), (68, RX7, -1000000001, 330), (76, RX7, -1000000003, 335), (123, RX7, -1000000012, 406), (127, RX7, -1000000002, 422), (192, RX7, -1000000005, 561), (210, RX7, -1000000011, 598), (259, RX7, -1000000014, 878), (268, RX7, -1000000013, 888), (275, RX7, -99999, 889), (276, RX7, 99999, 890), (83, RX8, -1000000001, 1084), (84, RX8, -1000000003, 1085), (120, RX8, -1000000012, 1139), (127, RX8, -1000000002, 1159), (128, RX8, 1103515245, 1184), (149, RX8, -1000000005, 1217), (171, RX8, -1000000011, 1281), (244, RX8, -1000000014, 1361), (245, RX8, -1000000013, 1366), (246, RX8, -99999, 1367), (247, RX8, 99999, 1368), (265, RJ6, 1431655765, 526), (266, RJ6, 858993459, 527), (267, RJ6, 252645135, 528)]
def cstT : List (Nat × String × Int32 × Nat) := cstT_0
def staT_0 : List (Nat × String × Nat × String × Nat) := [(31, RX1, 2, "LogLetters", 403), (38, RJ0, 0, "", 677), (1053, RJ0, 1, "", 693)]
def staT : List (Nat × String × Nat × String × Nat) := staT_0
def nwcT_0 : List (Nat × String × Nat × Nat × Nat × Nat) := [(9, RX2, 6, 174, 43, 175), (83, RX2, 0, 835, 48, 836), (9, RX3, 1, 70, 41, 74), (9, RX5, 1, 262, 41, 74), (18, RX5, 4, 264, 44, 239), (7, RX7, 3, 64, 40, 65), (25, RX7, 2, 168, 42, 169), (32, RX7, 4, 235, 44, 239), (38, RX7, 5, 237, 45, 257), (7, "LogLettersLaw", 7, 56, 39, 57), (10, "LogLettersLaw", 8, 969, 46, 970)]
def nwcT : List (Nat × String × Nat × Nat × Nat × Nat) := nwcT_0
def nwaT_0 : List (Nat × String × Nat × String × Nat × Nat) := [(9, RX3, 14, "LogLetters$Log", 70, 71), (30, RX3, 15, "LogLetters$Law", 72, 73), (32, RX7, 16, "LogLetters$Row", 235, 236), (38, RX7, 17, "LogLetters$Slot", 237, 238)]
def nwaT : List (Nat × String × Nat × String × Nat × Nat) := nwaT_0
def spcT_0 : List (Nat × String × Nat × List Nat) := [(3, RX0, 0, [840, 62, 63]), (26, RX0, 1, [842, 551, 550, 50]), (32, RX0, 2, [843, 363, 47, 364]), (3, RX1, 0, [78, 62, 63]), (38, RX1, 3, [386, 379, 47, 380]), (3, RX2, 0, [173, 62, 63]), (3, RX3, 0, [69, 62, 63]), (68, RX3, 1, [549, 551, 550, 50]), (117, RX3, 2, [362, 363, 47, 364]), (3, RX4, 0, [243, 62, 63]), (22, RX4, 1, [922, 551, 550, 50]), (3, RX5, 0, [261, 62, 63]), (3, RX6, 0, [179, 62, 63]), (1, RX7, 0, [61, 62, 63]), (149, RX7, 3, [378, 379, 47, 380]), (287, RX7, 1, [909, 551, 550, 50]), (325, RX7, 4, [612, 613, 47, 614]), (328, RX7, 2, [381, 363, 47, 364]), (1, RX8, 0, [974, 62, 63]), (92, RJ1, 2, [764, 363, 47, 364]), (38, RJ1, 3, [765, 379, 47, 380])]
def spcT : List (Nat × String × Nat × List Nat) := spcT_0
/-- the literals of the class: place in the pool, text -/
def strs : List (Nat × String) := [(99, "drift"), (105, "fee"), (107, "fine"), (145, "fmr"), (147, "sw"), (149, "lm")]
def fStr (own : String) (i : Nat) : Option Nat := if own = RX2 then strs.findIdx? (fun q => q.1 == i) else none
def fCst (own : String) (i : Nat) : Option Int32 := match cstT.find? (fun e => e.1 == i && decide (e.2.1 = own)) with
  | some (_, _, v, p) => if tat p (.constant own i v) = true then some v else none
  | none => none
/-- a call: 0 static, 1 virtual, 2 a constructor: the method, how many arguments (the receiver left out) -/
def rsl (c : Nat) (own : String) (i : Nat) : Option (Mu × Nat) := match rslT.find? (fun e => e.1 == i && (e.2.1 == c && decide (e.2.2.1 = own))) with
  | some (_, _, _, μ, np, nst, ps) => if tat (ps.getD 0 0) (.code μ.2.1 μ.1 μ.2.2.1 μ.2.2.2) = true ∧ tat (ps.getD 1 0) (.initialized μ.2.1.cls) = true ∧ plainName μ.2.1.cls = true ∧ (μ.2.1.cls ≠ "java/lang/invoke/MethodHandle" ∧ μ.2.1.cls ≠ "java/lang/invoke/VarHandle") ∧ μ.2.2.1 ≤ 19 ∧ (parseMethodDescriptor μ.2.1.desc).map (fun d => d.parameters.length) = some np ∧
      (match nst with
        | none => tat (ps.getD 2 0) (.methodLink own i μ.2.1)
        | some h => decide (lw_tbl[ps.getD 2 0]? = some (.methodLinkNest own i μ.2.1 h))) = true ∧
      (c = 0 → tat (ps.getD 3 0) (.static μ.2.1) = true) ∧ (c = 1 → tat (ps.getD 3 0) (.instanceMethod μ.2.1) = true ∧ tat (ps.getD 4 0) (.selects μ.2.1.cls μ.2.1 μ.2.1) = true ∧ nst = none) ∧ (c = 2 → tat (ps.getD 3 0) (.instanceMethod μ.2.1) = true ∧ μ.2.1.name = "<init>" ∧ μ.2.2.2 = none)
    then some (μ, np) else none
  | none => none
/-- a field: its class, its number -/
def fld (own : String) (i : Nat) : Option (Nat × Nat) := match fldT.find? (fun e => e.1 == i && decide (e.2.1 = own)) with
  | some (_, _, ref, n, d, ci, f, p) => if tat p (.fieldLink own i ref n d) = true ∧ ((ci = 20 ∧ f = 0 ∧ ref = "java/lang/String" ∧ n = "coder" ∧ d = "B") ∨ (ci = 20 ∧ f = 1 ∧ ref = "java/lang/String" ∧ n = "value" ∧ d = "[B") ∨ (ci < 9 ∧ (vwCl[ci]?).map (fun q => decide (q.1 = ref ∧ f < q.2.2 ∧ (q.2.1 f).1 = ref ∧ (q.2.1 f).2.1 = n ∧ (q.2.1 f).2.2.1 = d)) = some true)) then some (ci, f) else none
  | none => none
/-- a static: what it holds -/
def sta (own : String) (i : Nat) : Option Av := match staT.find? (fun e => e.1 == i && decide (e.2.1 = own)) with
  | some (_, _, k, h, p) => if k = 0 ∧ tat p (.fieldLink own i "java/lang/String" "COMPACT_STRINGS" "Z") = true then some (vI 1) else if k = 1 ∧ tat p (.fieldLink own i "jdk/internal/util/Preconditions" "SIOOBE_FORMATTER" "Ljava/util/function/BiFunction;") = true then some (vR 4 0 0) else if k = 2 ∧ lw_tbl[p]? = some (.fieldLinkNest own i "LogLetters" "ABOVE" "[I" h) then some (vR 1 0 0) else none
  | none => none
/-- new: the class -/
def nwc (own : String) (i : Nat) : Option Nat := match nwcT.find? (fun e => e.1 == i && decide (e.2.1 = own)) with
  | some (_, _, ci, p1, p2, p3) => (match vwCl[ci]? with
    | some q => if tat p1 (.classLink own i q.1) = true ∧ tat p2 (.initialized q.1) = true ∧ tat p3 (.instantiable q.1 q.2.2) = true then some ci else none
    | none => none)
  | none => none
/-- anewarray: the kind -/
def nwa (own : String) (i : Nat) : Option Nat := match nwaT.find? (fun e => e.1 == i && decide (e.2.1 = own)) with
  | some (_, _, kq, C, p1, p2) => if 14 ≤ kq ∧ kq < 18 ∧ aty kq = .object C ∧ tat p1 (.classLink own i C) = true ∧ lw_tbl[p2]? = some (.arrayOver (.object C)) then some kq else none
  | none => none
def mthN (k : Nat) : MethodName := match k with
  | 2 => Lib.Math.max.name
  | 3 => Lib.Math.min.name
  | _ => Lib.Math.abs.name
def mthC (k : Nat) : ByteArray := match k with
  | 2 => Lib.Math.max.code
  | 3 => Lib.Math.min.code
  | _ => Lib.Math.abs.code
/-- calls that are steps: 0 Object's constructor, 1 arraycopy, 2 max, 3 min, 4 abs -/
def spc (own : String) (i : Nat) : Option Nat := match spcT.find? (fun e => e.1 == i && decide (e.2.1 = own)) with
  | some (_, _, k, ps) => if k = 0 then (if tat (ps.getD 0 0) (.methodLink own i Lib.objectInit) = true ∧ tat (ps.getD 1 0) (.instanceMethod Lib.objectInit) = true ∧ tat (ps.getD 2 0) (.code Lib.objectInit ⟨#[0xb1]⟩ 1 none) = true then some 0 else none)
    else if k = 1 then (if tat (ps.getD 0 0) (.methodLink own i arraycopyName) = true ∧ tat (ps.getD 1 0) (.native arraycopyName) = true ∧ tat (ps.getD 2 0) (.static arraycopyName) = true ∧ tat (ps.getD 3 0) (.initialized "java/lang/System") = true then some 1 else none)
    else if k < 5 then (if tat (ps.getD 0 0) (.methodLink own i (mthN k)) = true ∧ tat (ps.getD 1 0) (.static (mthN k)) = true ∧ tat (ps.getD 2 0) (.initialized "java/lang/Math") = true ∧ tat (ps.getD 3 0) (.code (mthN k) (mthC k) (if k = 4 then 1 else 2) (some .int)) = true then some k else none) else none
  | none => none
def tyOf (ci k : Nat) : FieldType := match ci with
  | 0 => tyX0 k
  | 1 => tyX1 k
  | 2 => tyX2 k
  | 3 => tyX3 k
  | 4 => tyX4 k
  | 5 => tyX5 k
  | 6 => tyX6 k
  | 7 => tyX7 k
  | _ => tyX8 k
def nFl (ci : Nat) : Nat := [4, 5, 14, 16, 3, 4, 2, 10, 33].getD ci 0
/-- is a field final -/
def qfin (ci k : Nat) : Bool := match vwCl[ci]? with
  | some q => (q.2.1 k).2.2.2
  | none => false
def dfv (ty : FieldType) : Av := match ty with
  | .object _ => vN
  | .array _ => vN
  | _ => vI 0
/-- may a field of this type hold this value -/
def fok (ty : FieldType) (v : Av) : Bool := match ty, v with
  | .int, .inl _ => true
  | .boolean, .inl x => decide (x = 0 ∨ x = 1)
  | .object _, .inr (.inr _) => true
  | .array _, .inr (.inr _) => true
  | _, _ => false
/-! the steps -/
def qjmp (pc : Nat) (o : Int) : Option Nat := if 0 ≤ (pc : Int) + o then some ((pc : Int) + o).toNat else none
def ldv (l : Lv) (k : Nat) : Option Av := (l[k]?).join
def nlx (l : Lv) (i : Nat) : Bool := match i with
  | 0 => true
  | j + 1 => match ldv l j with
    | some (.inr (.inl _)) => false
    | _ => true
def qsto (l : Lv) (i : Nat) (v : Av) : Option Lv := if i < l.length ∧ nlx l i = true then some (l.set i (some v)) else none
def qstoL (l : Lv) (i : Nat) (v : Av) : Option Lv := if i + 1 < l.length ∧ nlx l i = true then some ((l.set i (some v)).set (i + 1) none) else none
def qcat (v : Av) : Nat := match v with
  | .inr (.inl _) => 2
  | _ => 1
def cndB (c : ClassFile.Cond) (x y : Int32) : Bool := match c with
  | .eq => decide (x = y)
  | .ne => decide (¬ x = y)
  | .lt => decide (x < y)
  | .ge => decide (y ≤ x)
  | .gt => decide (y < x)
  | .le => decide (x ≤ y)
def liI (l : Lv) (k pc : Nat) (st : List Av) : Option (Nat × Lv × List Av) := match ldv l k with
  | some (.inl x) => some (pc, l, vI x :: st)
  | _ => none
def liA (l : Lv) (k pc : Nat) (st : List Av) : Option (Nat × Lv × List Av) := match ldv l k with
  | some (.inr (.inr r)) => some (pc, l, .inr (.inr r) :: st)
  | _ => none
def liL (l : Lv) (k pc : Nat) (st : List Av) : Option (Nat × Lv × List Av) := match ldv l k with
  | some (.inr (.inl x)) => some (pc, l, vL x :: st)
  | _ => none
def siI (l : Lv) (k pc : Nat) (st : List Av) : Option (Nat × Lv × List Av) := match st with
  | .inl x :: rest => (qsto l k (vI x)).map fun l' => (pc, l', rest)
  | _ => none
def siA (l : Lv) (k pc : Nat) (st : List Av) : Option (Nat × Lv × List Av) := match st with
  | .inr (.inr r) :: rest => (qsto l k (.inr (.inr r))).map fun l' => (pc, l', rest)
  | _ => none
def siL (l : Lv) (k pc : Nat) (st : List Av) : Option (Nat × Lv × List Av) := match st with
  | .inr (.inl x) :: rest => (qstoL l k (vL x)).map fun l' => (pc, l', rest)
  | _ => none
def b2 (f : Int32 → Int32 → Int32) (pc : Nat) (l : Lv) (st : List Av) : Option (Nat × Lv × List Av) := match st with
  | .inl y :: .inl x :: rest => some (pc + 1, l, vI (f x y) :: rest)
  | _ => none
def b2L (f : Int64 → Int64 → Int64) (pc : Nat) (l : Lv) (st : List Av) : Option (Nat × Lv × List Av) := match st with
  | .inr (.inl y) :: .inr (.inl x) :: rest => some (pc + 1, l, vL (f x y) :: rest)
  | _ => none
def u1 (f : Int32 → Int32) (pc : Nat) (l : Lv) (st : List Av) : Option (Nat × Lv × List Av) := match st with
  | .inl x :: rest => some (pc + 1, l, vI (f x) :: rest)
  | _ => none
/-- stack, locals, numbers, jumps: the cells are not asked -/
def sA (i : Instr) (len pc : Nat) (l : Lv) (st : List Av) : Option (Nat × Lv × List Av) := match i with
  | .aconst_null => if len = 1 then some (pc + 1, l, vN :: st) else none
  | .iconst n => if len = 1 then some (pc + 1, l, vI (Int32.ofInt n) :: st) else none
  | .bipush n => if len = 2 then some (pc + 2, l, vI (Int8.ofInt n).toInt32 :: st) else none
  | .sipush n => if len = 3 then some (pc + 3, l, vI (Int16.ofInt n).toInt32 :: st) else none
  | .lconst n => if len = 1 then some (pc + 1, l, vL (Int64.ofNat (n : Nat)) :: st) else none
  | .iload_n k => if len = 1 then liI l k (pc + 1) st else none
  | .iload k => if len = 2 then liI l k (pc + 2) st else none
  | .aload_n k => if len = 1 then liA l k (pc + 1) st else none
  | .aload k => if len = 2 then liA l k (pc + 2) st else none
  | .lload_n k => if len = 1 then liL l k (pc + 1) st else none
  | .lload k => if len = 2 then liL l k (pc + 2) st else none
  | .istore_n k => if len = 1 then siI l k (pc + 1) st else none
  | .istore k => if len = 2 then siI l k (pc + 2) st else none
  | .astore_n k => if len = 1 then siA l k (pc + 1) st else none
  | .astore k => if len = 2 then siA l k (pc + 2) st else none
  | .lstore_n k => if len = 1 then siL l k (pc + 1) st else none
  | .lstore k => if len = 2 then siL l k (pc + 2) st else none
  | .iinc k n => if len = 3 then (match ldv l k with
    | some (.inl x) => (qsto l k (vI (x + Int32.ofInt n))).map fun l' => (pc + 3, l', st)
    | _ => none) else none
  | .iadd => if len = 1 then b2 (fun x y => x + y) pc l st else none
  | .isub => if len = 1 then b2 (fun x y => x - y) pc l st else none
  | .imul => if len = 1 then b2 (fun x y => x * y) pc l st else none
  | .iand => if len = 1 then b2 (fun x y => x &&& y) pc l st else none
  | .ior => if len = 1 then b2 (fun x y => x ||| y) pc l st else none
  | .ixor => if len = 1 then b2 (fun x y => x ^^^ y) pc l st else none
  | .ishl => if len = 1 then b2 (fun x y => x <<< (y &&& 31)) pc l st else none
  | .ishr => if len = 1 then b2 (fun x y => x >>> (y &&& 31)) pc l st else none
  | .iushr => if len = 1 then b2 (fun x y => (x.toUInt32 >>> (y.toUInt32 &&& Int32.toUInt32 31)).toInt32) pc l st else none
  | .idiv => if len = 1 then (match st with
    | .inl y :: .inl x :: rest => if y = 0 then none else some (pc + 1, l, vI (x / y) :: rest)
    | _ => none) else none
  | .irem => if len = 1 then (match st with
    | .inl y :: .inl x :: rest => if y = 0 then none else some (pc + 1, l, vI (x - x / y * y) :: rest)
    | _ => none) else none
  | .ineg => if len = 1 then u1 (fun x => -x) pc l st else none
  | .i2b => if len = 1 then u1 (fun x => x.toInt8.toInt32) pc l st else none
  | .i2s => if len = 1 then u1 (fun x => x.toInt16.toInt32) pc l st else none
  | .i2c => if len = 1 then u1 (fun x => (x.toUInt32 % 65536).toInt32) pc l st else none
  | .i2l => if len = 1 then (match st with
    | .inl x :: rest => some (pc + 1, l, vL x.toInt64 :: rest)
    | _ => none) else none
  | .l2i => if len = 1 then (match st with
    | .inr (.inl x) :: rest => some (pc + 1, l, vI x.toInt32 :: rest)
    | _ => none) else none
  | .ladd => if len = 1 then b2L (fun x y => x + y) pc l st else none
  | .lsub => if len = 1 then b2L (fun x y => x - y) pc l st else none
  | .lneg => if len = 1 then (match st with
    | .inr (.inl x) :: rest => some (pc + 1, l, vL (-x) :: rest)
    | _ => none) else none
  | .lcmp => if len = 1 then (match st with
    | .inr (.inl y) :: .inr (.inl x) :: rest => some (pc + 1, l, vI (lg_cmp x y) :: rest)
    | _ => none) else none
  | .dup => if len = 1 then (match st with
    | v :: rest => if qcat v = 1 then some (pc + 1, l, v :: v :: rest) else none
    | _ => none) else none
  | .dup2 => if len = 1 then (match st with
    | v :: w :: rest => if qcat v = 1 ∧ qcat w = 1 then some (pc + 1, l, v :: w :: v :: w :: rest) else none
    | _ => none) else none
  | .pop => if len = 1 then (match st with
    | v :: rest => if qcat v = 1 then some (pc + 1, l, rest) else none
    | _ => none) else none
  | .if_icmp c o => if len = 3 then (match st with
    | .inl y :: .inl x :: rest => (qjmp pc o).map fun t => (if cndB c x y = true then t else pc + 3, l, rest)
    | _ => none) else none
  | .ifCond c o => if len = 3 then (match st with
    | .inl x :: rest => (qjmp pc o).map fun t => (if cndB c x 0 = true then t else pc + 3, l, rest)
    | _ => none) else none
  | .ifnull o => if len = 3 then (match st with
    | .inr (.inr none) :: rest => (qjmp pc o).map fun t => (t, l, rest)
    | .inr (.inr (some r)) :: rest => if 5 ≤ r.1 then some (pc + 3, l, rest) else none
    | _ => none) else none
  | .ifnonnull o => if len = 3 then (match st with
    | .inr (.inr none) :: rest => some (pc + 3, l, rest)
    | .inr (.inr (some r)) :: rest => if 5 ≤ r.1 then (qjmp pc o).map fun t => (t, l, rest) else none
    | _ => none) else none
  | .goto o => if len = 3 then (qjmp pc o).map fun t => (t, l, st) else none
  | .tableswitch df lo hi os => (match st with
    | .inl x :: rest => if x.toInt < lo ∨ hi < x.toInt then (qjmp pc df).map fun t => (t, l, rest) else (match os[(x.toInt - lo).toNat]? with
      | some o => (qjmp pc o).map fun t => (t, l, rest)
      | none => none)
    | _ => none)
  | .lookupswitch df ps => (match st with
    | .inl x :: rest => if (ps.toList.zip (ps.toList.drop 1)).all (fun (a, next) => a.1 < next.1) = true then (qjmp pc (Op.lookupswitch.offset ps.toList df x.toInt)).map fun t => (t, l, rest) else none
    | _ => none)
  | _ => none
/-- a cell that has been made, under its own name -/
def okr (σ : St) (r : Rf) : Bool := decide (5 ≤ r.1) && (decide (qoff r < σ.2.2.1) && decide (qmk (qoff r) = r))
/-- an array that was there before -/
def okx (r : Rf) : Bool := decide (r = (0, 0, 0) ∨ r = (1, 0, 0) ∨ (r.1 = 3 ∧ r.2.1 < 6 ∧ r.2.2 = 0))
/-- a text that was there before -/
def oks (r : Rf) : Bool := decide (r.1 = 2 ∧ r.2.1 < 6 ∧ r.2.2 = 0)
def aI (v : Av) : Int32 := match v with
  | .inl x => x
  | _ => 0
def aR (v : Av) : Option Rf := match v with
  | .inr (.inr (some q)) => if 5 ≤ q.1 then some q else none
  | _ => none
def rdA (ks : List Nat) (len pc : Nat) (st : List Av) (σ : St) : Option (Nat × List Av) := if len = 1 then (match st with
    | .inl x :: .inr (.inr (some r)) :: rest => if kd r.1 ∈ ks ∧ (okr σ r || okx r) = true ∧ 0 ≤ x ∧ x.toNatClampNeg < σ.2.1 r then some (pc + 1, vI (aI (σ.1 r x.toNatClampNeg)) :: rest) else none
    | _ => none) else none
def rdR (len pc : Nat) (st : List Av) (σ : St) : Option (Nat × List Av) := if len = 1 then (match st with
    | .inl x :: .inr (.inr (some r)) :: rest => if 14 ≤ kd r.1 ∧ kd r.1 < 18 ∧ okr σ r = true ∧ 0 ≤ x ∧ x.toNatClampNeg < σ.2.1 r then some (pc + 1, .inr (.inr (aR (σ.1 r x.toNatClampNeg))) :: rest) else none
    | _ => none) else none
/-- reads of cells and constants -/
def sB (own : String) (i : Instr) (len pc : Nat) (st : List Av) (σ : St) : Option (Nat × List Av) := match i with
  | .ldc k => if len = 2 then (match fCst own k with
    | some v => some (pc + 2, vI v :: st)
    | none => match fStr own k with
      | some q => some (pc + 2, vR 2 q 0 :: st)
      | none => none) else none
  | .ldc_w k => if len = 3 then (match fCst own k with
    | some v => some (pc + 3, vI v :: st)
    | none => none) else none
  | .getfield k => if len = 3 then (match st, fld own k with
    | .inr (.inr (some r)) :: rest, some (ci, q) => if kd r.1 = ci ∧ ((ci < 9 ∧ okr σ r = true) ∨ (ci = 20 ∧ oks r = true)) then some (pc + 3, σ.1 r q :: rest) else none
    | _, _ => none) else none
  | .getstatic k => if len = 3 then (match sta own k with
    | some v => some (pc + 3, v :: st)
    | none => none) else none
  | .iaload => rdA [10] len pc st σ
  | .baload => rdA [11, 12] len pc st σ
  | .caload => rdA [13] len pc st σ
  | .aaload => rdR len pc st σ
  | .arraylength => if len = 1 then (match st with
    | .inr (.inr (some r)) :: rest => if 10 ≤ kd r.1 ∧ kd r.1 < 18 ∧ (okr σ r || okx r) = true then some (pc + 1, vI (Int32.ofNat (σ.2.1 r)) :: rest) else none
    | _ => none) else none
  | _ => none
def hput (h : Hp) (r : Rf) (k : Nat) (v : Av) : Hp := fun r' k' => if r' = r ∧ k' = k then v else h r' k'
def hnew (h : Hp) (r : Rf) (f : Nat → Av) : Hp := fun r' => if r' = r then f else h r'
def alc (σ : St) (f : Nat → Av) (ln sl : Nat) : St := (hnew σ.1 (qmk σ.2.2.1) f, fun r => if r = qmk σ.2.2.1 then ln else σ.2.1 r, σ.2.2.1 + 1, σ.2.2.2 + sl)
def wrA (kq : Nat) (g : Int32 → Int32) (len pc : Nat) (st : List Av) (σ : St) : Option (Nat × List Av × St) := if len = 1 then (match st with
    | .inl v :: .inl x :: .inr (.inr (some r)) :: rest => if okr σ r = true ∧ kd r.1 = kq ∧ 0 ≤ x ∧ x.toNatClampNeg < σ.2.1 r then some (pc + 1, rest, (hput σ.1 r x.toNatClampNeg (vI (g v)), σ.2)) else none
    | _ => none) else none
def nwk (t : ArrayType) : Nat := match t with
  | .int => 10
  | .byte => 11
  | .boolean => 12
  | .char => 13
  | _ => 99
/-- writes of cells, new cells -/
def sC (μ : Mu) (d : Nat) (i : Instr) (len pc : Nat) (st : List Av) (σ : St) : Option (Nat × List Av × St) := match i with
  | .putfield k => if len = 3 then (match st, fld μ.2.1.cls k with
    | v :: .inr (.inr (some r)) :: rest, some (ci, q) => if okr σ r = true ∧ kd r.1 = ci ∧ ci < 9 ∧ fok (tyOf ci q) v = true ∧ (qfin ci q = false ∨ (μ.2.1.name = "<init>" ∧ (vwCl[ci]?).map (fun z => (z.2.1 q).1) = some μ.2.1.cls)) then some (pc + 3, rest, (hput σ.1 r q v, σ.2)) else none
    | _, _ => none) else none
  | .iastore => wrA 10 (fun x => x) len pc st σ
  | .bastore => (match wrA 11 (vp_nar .byte) len pc st σ with
    | some z => some z
    | none => wrA 12 (vp_nar .boolean) len pc st σ)
  | .castore => wrA 13 (vp_nar .char) len pc st σ
  | .aastore => if len = 1 then (match st with
    | .inr (.inr q) :: .inl x :: .inr (.inr (some r)) :: rest => if okr σ r = true ∧ 14 ≤ kd r.1 ∧ kd r.1 < 18 ∧ 0 ≤ x ∧ x.toNatClampNeg < σ.2.1 r ∧ (∀ z ∈ q, okr σ z = true ∧ kd z.1 = ecl (kd r.1)) then some (pc + 1, rest, (hput σ.1 r x.toNatClampNeg (.inr (.inr q)), σ.2)) else none
    | _ => none) else none
  | .new k => if len = 3 then (match nwc μ.2.1.cls k with
    | some ci => if kd (qmk σ.2.2.1).1 = ci then some (pc + 3, .inr (.inr (some (qmk σ.2.2.1))) :: st, alc σ (fun q => dfv (tyOf ci q)) 0 (nFl ci)) else none
    | none => none) else none
  | .newarray t => if len = 2 then (match st with
    | .inl x :: rest => if nwk t < 14 ∧ kd (qmk σ.2.2.1).1 = nwk t ∧ 0 ≤ x ∧ x.toNatClampNeg ≤ 100000 ∧ okw (.arrayClass (newarray.typeOf t)) = true then some (pc + 2, .inr (.inr (some (qmk σ.2.2.1))) :: rest, alc σ (fun _ => vI 0) x.toNatClampNeg x.toNatClampNeg) else none
    | _ => none) else none
  | .anewarray k => if len = 3 then (match st, nwa μ.2.1.cls k with
    | .inl x :: rest, some kq => if kd (qmk σ.2.2.1).1 = kq ∧ 0 ≤ x ∧ x.toNatClampNeg ≤ 100000 then some (pc + 3, .inr (.inr (some (qmk σ.2.2.1))) :: rest, alc σ (fun _ => vN) x.toNatClampNeg x.toNatClampNeg) else none
    | _, _ => none) else none
  | .invokespecial k => if len = 3 then (match st, spc μ.2.1.cls k with
    | .inr (.inr (some r)) :: rest, some 0 => if 5 ≤ r.1 ∧ 1 ≤ d ∧ (rest.map qcat).sum ≤ 8 then some (pc + 3, rest, σ) else none
    | _, _ => none) else none
  | .invokestatic k => if len = 3 then (match spc μ.2.1.cls k with
    | some 1 => (match st with
      | .inl n :: .inl dp :: .inr (.inr (some r)) :: .inl sp :: .inr (.inr (some q)) :: rest => if okr σ r = true ∧ okr σ q = true ∧ kd r.1 = 10 ∧ kd q.1 = 10 ∧ 0 ≤ n ∧ 0 ≤ dp ∧ 0 ≤ sp ∧ sp.toNatClampNeg + n.toNatClampNeg ≤ σ.2.1 q ∧ dp.toNatClampNeg + n.toNatClampNeg ≤ σ.2.1 r ∧ 1 ≤ d ∧ (rest.map qcat).sum ≤ 8 then some (pc + 3, rest, (hnew σ.1 r (fun k => vI (va_cpy (fun j => aI (σ.1 q j)) (fun j => aI (σ.1 r j)) sp.toNatClampNeg dp.toNatClampNeg n.toNatClampNeg k)), σ.2)) else none
      | _ => none)
    | some 2 => (match st with
      | .inl y :: .inl x :: rest => if 1 ≤ d ∧ (rest.map qcat).sum ≤ 8 then some (pc + 3, vI (if x < y then y else x) :: rest, σ) else none
      | _ => none)
    | some 3 => (match st with
      | .inl y :: .inl x :: rest => if 1 ≤ d ∧ (rest.map qcat).sum ≤ 8 then some (pc + 3, vI (if y < x then y else x) :: rest, σ) else none
      | _ => none)
    | some 4 => (match st with
      | .inl x :: rest => if 1 ≤ d ∧ (rest.map qcat).sum ≤ 8 then some (pc + 3, vI (if 0 ≤ x then x else 0 - x) :: rest, σ) else none
      | _ => none)
    | _ => none) else none
  | _ => none
/-- the receiver r is of class C -/
def rcv (σ : St) (r : Rf) (C : String) : Bool := match vwCl[kd r.1]? with
  | some q => okr σ r && decide (q.1 = C)
  | none => oks r && decide (C = "java/lang/String")
def rfT (ty : FieldType) : Bool := match ty with
  | .object _ => true
  | .array _ => true
  | _ => false
/-- a call: the method, its arguments (the receiver first), what is left on the stack -/
def sD (own : String) (i : Instr) (len : Nat) (st : List Av) (σ : St) : Option (Mu × List Av × List Av) := if len = 3 then (match i with
  | .invokestatic k => (match rsl 0 own k with
    | some (m, n) => if n ≤ st.length ∧ ((st.drop n).map qcat).sum ≤ 8 then some (m, (st.take n).reverse, st.drop n) else none
    | none => none)
  | .invokevirtual k => (match rsl 1 own k with
    | some (m, n) => (match st.drop n with
      | .inr (.inr (some r)) :: rest => if n ≤ st.length ∧ (rest.map qcat).sum ≤ 8 ∧ rcv σ r m.2.1.cls = true then some (m, .inr (.inr (some r)) :: (st.take n).reverse, rest) else none
      | _ => none)
    | none => none)
  | .invokespecial k => (match rsl 2 own k with
    | some (m, n) => (match st.drop n with
      | .inr (.inr (some r)) :: rest => if n ≤ st.length ∧ (rest.map qcat).sum ≤ 8 ∧ 5 ≤ r.1 then some (m, .inr (.inr (some r)) :: (st.take n).reverse, rest) else none
      | _ => none)
    | none => none)
  | _ => none) else none
/-- a return -/
def sE (rt : Option FieldType) (i : Instr) (len : Nat) (st : List Av) : Option (Option Av) := if len = 1 then (match i, rt, st with
  | .return_, none, [] => some none
  | .ireturn, some ty, [.inl x] => if narrow ty (.int x) = .int x then some (some (vI x)) else none
  | .lreturn, some .long, [.inr (.inl x)] => some (some (vL x))
  | .areturn, some ty, [.inr (.inr r)] => if rfT ty = true then some (some (.inr (.inr r))) else none
  | _, _, _ => none) else none
def qent (as : List Av) (n : Nat) : Lv := as.map some ++ List.replicate (n - as.length) none
/-- n: fuel; d: how many calls may still be open -/
def xc : Nat → Nat → Mu → Nat → Lv → List Av → St → Option (Option Av × St)
  | 0, _, _, _, _, _, _ => none
  | n + 1, d, μ, pc, l, st, σ => match decode μ.1 pc with
    | .error _ => none
    | .ok (i, len) => match sA i len pc l st with
      | some (pc', l', st') => xc n d μ pc' l' st' σ
      | none => match sB μ.2.1.cls i len pc st σ with
        | some (pc', st') => xc n d μ pc' l st' σ
        | none => match sC μ d i len pc st σ with
          | some (pc', st', σ') => xc n d μ pc' l st' σ'
          | none => match sE μ.2.2.2 i len st with
            | some v => some (v, σ)
            | none => match d with
              | 0 => none
              | d' + 1 => match sD μ.2.1.cls i len st σ with
                | none => none
                | some (μ', as, rest) => if as.length ≤ μ'.2.2.1 ∧ (∀ a ∈ as, qcat a = 1) then (match xc n d' μ' 0 (qent as μ'.2.2.1) [] σ with
                  | none => none
                  | some (v, σ') => xc n d μ (pc + 3) l (v.toList ++ rest) σ') else none
