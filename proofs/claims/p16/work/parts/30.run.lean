def rf_l : List Int32 := [2, 0, 1, (-1), 0, 2, 0, 0, 0, 0, 14, 0, 1, 1, 0]
def rf_x : Nat → Int32 := fun j => rf_l.getD j 0
def rf_2 : St_ABO → Prop := fun st => match st with | (A_ring, A_buffer, A_firstPlace, A_forcedPlace, A_endPlace, A_wordsToFailure, A_opened, B_thrown, B_buffer, B_words, B_serials, B_lengths, B_kinds, B_owners, B_olders, B_links, B_voids, B_base, B_count, B_first, B_forced, B_end, B_closed, B_left, B_begun, B_begunLength, O_v) => wk_all (fun _ => False) 15 rf_x (nI 10) A_ring A_buffer A_firstPlace A_forcedPlace A_endPlace A_wordsToFailure A_opened B_thrown B_buffer B_words B_serials B_lengths B_kinds B_owners B_olders B_links B_voids B_base B_count B_first B_forced B_end B_closed B_left B_begun B_begunLength O_v
def rf_1 : St_ABO → Prop := fun st => match st with | (A_ring, A_buffer, A_firstPlace, A_forcedPlace, A_endPlace, A_wordsToFailure, A_opened, B_thrown, B_buffer, B_words, B_serials, B_lengths, B_kinds, B_owners, B_olders, B_links, B_voids, B_base, B_count, B_first, B_forced, B_end, B_closed, B_left, B_begun, B_begunLength, O_v) => wk_all rf_2 15 rf_x (nI 5) A_ring A_buffer A_firstPlace A_forcedPlace A_endPlace A_wordsToFailure A_opened B_thrown B_buffer B_words B_serials B_lengths B_kinds B_owners B_olders B_links B_voids B_base B_count B_first B_forced B_end B_closed B_left B_begun B_begunLength O_v
def rf_0 : St_ABO → Prop := fun st => match st with | (A_ring, A_buffer, A_firstPlace, A_forcedPlace, A_endPlace, A_wordsToFailure, A_opened, B_thrown, B_buffer, B_words, B_serials, B_lengths, B_kinds, B_owners, B_olders, B_links, B_voids, B_base, B_count, B_first, B_forced, B_end, B_closed, B_left, B_begun, B_begunLength, O_v) => wk_all rf_1 15 rf_x (nI 0) A_ring A_buffer A_firstPlace A_forcedPlace A_endPlace A_wordsToFailure A_opened B_thrown B_buffer B_words B_serials B_lengths B_kinds B_owners B_olders B_links B_voids B_base B_count B_first B_forced B_end B_closed B_left B_begun B_begunLength O_v
def rf_R : Nat → St_ABO → Prop
  | 0, st => rf_0 st
  | 1, st => rf_1 st
  | 2, st => rf_2 st
  | _ + 3, _ => False
theorem rf_full : ∀ (k : Nat) (st : St_ABO), rf_R k st → 5 * k + 5 ≤ 15 := by
  intro k st h
  match k, h with
  | 0, _ => omega
  | 1, _ => omega
  | 2, _ => omega
  | _ + 3, h => exact h.elim
theorem rf_step : ∀ (k : Nat) (A_ring : Nat → Int32) (A_buffer : Nat → Int32) (A_firstPlace : Int32) (A_forcedPlace : Int32) (A_endPlace : Int32) (A_wordsToFailure : Int32) (A_opened : Int32) (B_thrown : Int32) (B_buffer : Nat → Int32) (B_words : Nat → Int32) (B_serials : Nat → Int32) (B_lengths : Nat → Int32) (B_kinds : Nat → Int32) (B_owners : Nat → Int32) (B_olders : Nat → Int32) (B_links : Nat → Int32) (B_voids : Nat → Int32) (B_base : Int32) (B_count : Int32) (B_first : Int32) (B_forced : Int32) (B_end : Int32) (B_closed : Int32) (B_left : Int32) (B_begun : Int32) (B_begunLength : Int32) (O_v : Nat → Int64), rf_R k (A_ring, A_buffer, A_firstPlace, A_forcedPlace, A_endPlace, A_wordsToFailure, A_opened, B_thrown, B_buffer, B_words, B_serials, B_lengths, B_kinds, B_owners, B_olders, B_links, B_voids, B_base, B_count, B_first, B_forced, B_end, B_closed, B_left, B_begun, B_begunLength, O_v) → 5 * k + 5 ≤ 15 → wk_all (fun st => rf_R (k + 1) st) 15 rf_x (nI (5 * k)) A_ring A_buffer A_firstPlace A_forcedPlace A_endPlace A_wordsToFailure A_opened B_thrown B_buffer B_words B_serials B_lengths B_kinds B_owners B_olders B_links B_voids B_base B_count B_first B_forced B_end B_closed B_left B_begun B_begunLength O_v := by
  intro k A_ring A_buffer A_firstPlace A_forcedPlace A_endPlace A_wordsToFailure A_opened B_thrown B_buffer B_words B_serials B_lengths B_kinds B_owners B_olders B_links B_voids B_base B_count B_first B_forced B_end B_closed B_left B_begun B_begunLength O_v h _
  match k, h with
  | 0, h => exact h
  | 1, h => exact h
  | 2, h => exact h
  | _ + 3, h => exact h.elim
