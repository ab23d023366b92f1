set_option maxHeartbeats 4000000 in
set_option maxRecDepth 100000 in
theorem xw_start {b : Nat} {s : State} {A : Nat → Prop} (hts : ∀ w ∈ lw_tbl, w.before #[Value.ref b] s = true) (hgv : (Jvm.Cond.and given_1 narrow_1).before #[Value.ref b] s = true) (hA : ∀ a : Nat, a < s.heap.size → ¬ A a) : XW A s := by
  have hs := flat_of_before _ hgv
  refine ⟨?_, ?_, ?_, ?_, ?_, ?_⟩
  · intro E hE
    simp only [xw_ex, List.mem_cons, List.not_mem_nil, or_false] at hE
    rcases hE with rfl | rfl | rfl | rfl
    · exact va_Nw.of rfl (hts (.castable "java/lang/IllegalStateException" "java/lang/IllegalStateException") (List.mem_of_getElem? (i := 106) (by decide +kernel)))
    · exact va_Nw.of rfl (hts (.castable "java/lang/IllegalArgumentException" "java/lang/IllegalArgumentException") (List.mem_of_getElem? (i := 210) (by decide +kernel)))
    · exact va_Nw.of rfl (hts (.castable "java/lang/IndexOutOfBoundsException" "java/lang/IndexOutOfBoundsException") (List.mem_of_getElem? (i := 175) (by decide +kernel)))
    · exact va_Nw.of rfl (hts (.castable "java/util/NoSuchElementException" "java/util/NoSuchElementException") (List.mem_of_getElem? (i := 281) (by decide +kernel)))
  · intro Y hY
    simp only [xw_su, List.mem_cons, List.not_mem_nil, or_false] at hY
    rcases hY with rfl | rfl | rfl
    · exact va_Nw.of rfl (hts (.declares ⟨"java/lang/RuntimeException", "<init>", "(Ljava/lang/String;)V"⟩) (List.mem_of_getElem? (i := 108) (by decide +kernel)))
    · exact va_Nw.of rfl (hts (.declares ⟨"java/lang/Exception", "<init>", "(Ljava/lang/String;)V"⟩) (List.mem_of_getElem? (i := 110) (by decide +kernel)))
    · exact va_Nw.of rfl (hts (.declares ⟨"java/lang/Throwable", "<init>", "(Ljava/lang/String;)V"⟩) (List.mem_of_getElem? (i := 112) (by decide +kernel)))
  · intro q hq
    simp only [xw_st, List.mem_cons, List.not_mem_nil, or_false] at hq
    rcases hq with rfl | rfl | rfl | rfl | rfl | rfl | rfl | rfl | rfl | rfl | rfl | rfl | rfl | rfl
    · obtain ⟨a, _, _, _, ha, _⟩ := Cond.exactly_spec (hs (.exactly (.string "LogBook" 39) "java/lang/String") (by decide +kernel))
      exact ⟨a, vk_R.of (hts (.stringRef "LogBook" 39 "the buffer has words 0 .. 199") (List.mem_of_getElem? (i := 182) (by decide +kernel))) ha⟩
    · obtain ⟨a, _, _, _, ha, _⟩ := Cond.exactly_spec (hs (.exactly (.string "LogBook" 54) "java/lang/String") (by decide +kernel))
      exact ⟨a, vk_R.of (hts (.stringRef "LogBook" 54 "kinds are 0 .. 15") (List.mem_of_getElem? (i := 224) (by decide +kernel))) ha⟩
    · obtain ⟨a, _, _, _, ha, _⟩ := Cond.exactly_spec (hs (.exactly (.string "LogBook" 57) "java/lang/String") (by decide +kernel))
      exact ⟨a, vk_R.of (hts (.stringRef "LogBook" 57 "a content has 0 .. 200 words") (List.mem_of_getElem? (i := 225) (by decide +kernel))) ha⟩
    · obtain ⟨a, _, _, _, ha, _⟩ := Cond.exactly_spec (hs (.exactly (.string "LogBook" 59) "java/lang/String") (by decide +kernel))
      exact ⟨a, vk_R.of (hts (.stringRef "LogBook" 59 "a link is NONE or a place before the end") (List.mem_of_getElem? (i := 226) (by decide +kernel))) ha⟩
    · obtain ⟨a, _, _, _, ha, _⟩ := Cond.exactly_spec (hs (.exactly (.string "LogBook" 82) "java/lang/String") (by decide +kernel))
      exact ⟨a, vk_R.of (hts (.stringRef "LogBook" 82 "the record is not wholly forced") (List.mem_of_getElem? (i := 319) (by decide +kernel))) ha⟩
    · obtain ⟨a, _, _, _, ha, _⟩ := Cond.exactly_spec (hs (.exactly (.string "LogBook" 103) "java/lang/String") (by decide +kernel))
      exact ⟨a, vk_R.of (hts (.stringRef "LogBook" 103 "what is 0 .. 4") (List.mem_of_getElem? (i := 381) (by decide +kernel))) ha⟩
    · obtain ⟨a, _, _, _, ha, _⟩ := Cond.exactly_spec (hs (.exactly (.string "LogBook" 105) "java/lang/String") (by decide +kernel))
      exact ⟨a, vk_R.of (hts (.stringRef "LogBook" 105 "the record has no such word") (List.mem_of_getElem? (i := 389) (by decide +kernel))) ha⟩
    · obtain ⟨a, _, _, _, ha, _⟩ := Cond.exactly_spec (hs (.exactly (.string "LogBook" 107) "java/lang/String") (by decide +kernel))
      exact ⟨a, vk_R.of (hts (.stringRef "LogBook" 107 "k is not below 0") (List.mem_of_getElem? (i := 397) (by decide +kernel))) ha⟩
    · obtain ⟨a, _, _, _, ha, _⟩ := Cond.exactly_spec (hs (.exactly (.string "LogBook" 113) "java/lang/String") (by decide +kernel))
      exact ⟨a, vk_R.of (hts (.stringRef "LogBook" 113 "which is 0 .. 2") (List.mem_of_getElem? (i := 424) (by decide +kernel))) ha⟩
    · obtain ⟨a, _, _, _, ha, _⟩ := Cond.exactly_spec (hs (.exactly (.string "LogBook" 115) "java/lang/String") (by decide +kernel))
      exact ⟨a, vk_R.of (hts (.stringRef "LogBook" 115 "n is NONE or a number of words") (List.mem_of_getElem? (i := 432) (by decide +kernel))) ha⟩
    · obtain ⟨a, _, _, _, ha, _⟩ := Cond.exactly_spec (hs (.exactly (.string "LogBook" 120) "java/lang/String") (by decide +kernel))
      exact ⟨a, vk_R.of (hts (.stringRef "LogBook" 120 "the book is open") (List.mem_of_getElem? (i := 440) (by decide +kernel))) ha⟩
    · obtain ⟨a, _, _, _, ha, _⟩ := Cond.exactly_spec (hs (.exactly (.string "LogBook" 125) "java/lang/String") (by decide +kernel))
      exact ⟨a, vk_R.of (hts (.stringRef "LogBook" 125 "the book is closed") (List.mem_of_getElem? (i := 146) (by decide +kernel))) ha⟩
    · obtain ⟨a, _, _, _, ha, _⟩ := Cond.exactly_spec (hs (.exactly (.string "LogBook" 127) "java/lang/String") (by decide +kernel))
      exact ⟨a, vk_R.of (hts (.stringRef "LogBook" 127 "owners are 0 .. 7") (List.mem_of_getElem? (i := 217) (by decide +kernel))) ha⟩
    · obtain ⟨a, _, _, _, ha, _⟩ := Cond.exactly_spec (hs (.exactly (.string "LogBook" 135) "java/lang/String") (by decide +kernel))
      exact ⟨a, vk_R.of (hts (.stringRef "LogBook" 135 "no record has this serial") (List.mem_of_getElem? (i := 288) (by decide +kernel))) ha⟩
  · intro q hq
    simp only [xw_nc, List.mem_cons, List.not_mem_nil, or_false] at hq
    rcases hq with rfl | rfl | rfl | rfl
    · exact va_Nc.of (hs (.not (.castable "java/lang/IndexOutOfBoundsException" "java/lang/IllegalStateException")) (by decide +kernel))
    · exact va_Nc.of (hs (.not (.castable "java/lang/IllegalArgumentException" "java/lang/IllegalStateException")) (by decide +kernel))
    · exact va_Nc.of (hs (.not (.castable "java/util/NoSuchElementException" "java/lang/IllegalStateException")) (by decide +kernel))
    · exact va_Nc.of (hs (.not (.castable "java/lang/IndexOutOfBoundsException" "java/util/NoSuchElementException")) (by decide +kernel))
  · exact vx_Zqof (hts (.laysStatic "java/lang/Throwable" "UNASSIGNED_STACK" "[Ljava/lang/StackTraceElement;") (List.mem_of_getElem? (i := 131) (by decide +kernel))) (hts (.initialized "java/lang/Throwable") (List.mem_of_getElem? (i := 35) (by decide +kernel))) (hs (.isRef (.static "java/lang/Throwable" "UNASSIGNED_STACK" "[Ljava/lang/StackTraceElement;")) (by decide +kernel)) hA
  · exact vx_Zqof (hts (.laysStatic "java/lang/Throwable" "SUPPRESSED_SENTINEL" "Ljava/util/List;") (List.mem_of_getElem? (i := 133) (by decide +kernel))) (hts (.initialized "java/lang/Throwable") (List.mem_of_getElem? (i := 35) (by decide +kernel))) (hs (.isRef (.static "java/lang/Throwable" "SUPPRESSED_SENTINEL" "Ljava/util/List;")) (by decide +kernel)) hA
set_option maxHeartbeats 8000000 in
set_option maxRecDepth 100000 in
/-- THE LAW, from its entry -/
theorem whole_start9 {p : Program} {e : Env} {s : State} {m : MethodId} {below : List Frame} {meth : Method} {c : Code} (l : Launch) (hl9 : l.stackTraces = false) {b L : Nat} {xs : Nat → Int32} (hL : L ≤ 2560) (Rel : Nat → St_ABO → Prop)
    (hrel0 : Rel 0 ((fun _ => 0), (fun _ => 0), (0 : Int32), (0 : Int32), (0 : Int32), (-1 : Int32), (1 : Int32), (0 : Int32), (fun _ => 0), (fun _ => 0), (fun _ => 0), (fun _ => 0), (fun _ => 0), (fun _ => 0), (fun _ => 0), (fun _ => 0), (fun _ => 0), (0 : Int32), (0 : Int32), (0 : Int32), (0 : Int32), (0 : Int32), (0 : Int32), (-1 : Int32), (-1 : Int32), (0 : Int32), (fun _ => 0))) (hstep : ∀ (k : Nat) (A_ring : Nat → Int32) (A_buffer : Nat → Int32) (A_firstPlace : Int32) (A_forcedPlace : Int32) (A_endPlace : Int32) (A_wordsToFailure : Int32) (A_opened : Int32) (B_thrown : Int32) (B_buffer : Nat → Int32) (B_words : Nat → Int32) (B_serials : Nat → Int32) (B_lengths : Nat → Int32) (B_kinds : Nat → Int32) (B_owners : Nat → Int32) (B_olders : Nat → Int32) (B_links : Nat → Int32) (B_voids : Nat → Int32) (B_base : Int32) (B_count : Int32) (B_first : Int32) (B_forced : Int32) (B_end : Int32) (B_closed : Int32) (B_left : Int32) (B_begun : Int32) (B_begunLength : Int32) (O_v : Nat → Int64), Rel k (A_ring, A_buffer, A_firstPlace, A_forcedPlace, A_endPlace, A_wordsToFailure, A_opened, B_thrown, B_buffer, B_words, B_serials, B_lengths, B_kinds, B_owners, B_olders, B_links, B_voids, B_base, B_count, B_first, B_forced, B_end, B_closed, B_left, B_begun, B_begunLength, O_v) → 5 * k + 5 ≤ L → wk_all (fun st => Rel (k + 1) st) L xs (nI (5 * k)) A_ring A_buffer A_firstPlace A_forcedPlace A_endPlace A_wordsToFailure A_opened B_thrown B_buffer B_words B_serials B_lengths B_kinds B_owners B_olders B_links B_voids B_base B_count B_first B_forced B_end B_closed B_left B_begun B_begunLength O_v) (hfull : ∀ (k : Nat) (st : St_ABO), Rel k st → 5 * k + 5 ≤ L)
    (C0 : lw_At p s m meth c b L xs) : W p l e room_1 s m #[Value.ref b] below meth c s.heap [] 0 0 (lw_Z below #[Value.ref b] s) (entryFrame m ([Value.ref b] : List Value).toArray 7) := by
  obtain ⟨hx, hb, hr, hml, hown, hts, hX, hbl, hlocks, hgv⟩ := id C0
  have hown : s.vm.findClass RL = some m.cls := hown
  have hbg : ∀ w ∈ bigW, w.before #[Value.ref b] s = true := fun w h => hts w (List.mem_filter.mp h).1
  obtain ⟨A, hAd⟩ : ∃ A : Nat → Prop, A = fun q : Nat => s.heap.size ≤ q := ⟨_, rfl⟩
  have hA : ∀ q : Nat, s.heap.size ≤ q → A q := fun _ h => by rw [hAd]; exact h
  have hAe : ∀ q : Nat, A q → s.heap.size ≤ q := fun _ h => by rw [hAd] at h; exact h
  have hbA : ¬ A b := fun h => absurd (hAe b h) (Nat.not_le.mpr hbl)
  have hXW0 : XW A s := xw_start hts hgv (fun a ha h => absurd (hAe a h) (Nat.not_le.mpr ha))
  obtain ⟨c0, iS0, hKn0⟩ := u_known (C := RX0) (T := TX0) (N := 7) (n := 7) hbg in_X0 (hbg _ kw_139)
  obtain ⟨c1, iS1, hKn1⟩ := u_known (C := RX1) (T := TX1) (N := 19) (n := 19) hbg in_X1 (hbg _ kw_140)
  obtain ⟨dC, dI, hKc⟩ : ∃ (dC : Nat → ClassId) (dI : Nat → Nat → Nat), ∀ (k : Nat) (q : vw_C), vwCl[k]? = some q → u_Kn s q.1 q.2.1 q.2.2 (dC k) (dI k) := by
    refine ⟨fun k => if k = 0 then c0 else c1, fun k => if k = 0 then iS0 else iS1, ?_⟩
    intro k q hq
    match k, hq with
    | 0, hq => cases hq; exact hKn0
    | 1, hq => cases hq; exact hKn1
    | k + 2, hq => simp [vwCl] at hq
  have hS : va_S A s.heap s.heap [] := va_S.rf
  have hK : va_K (dC, dI) vwCl [] s := ⟨hKc, fun k q h => by simp at h⟩
  have hP : va_P (dC, dI) vwCl [] s.heap := fun k q h => by simp at h
  have hD : va_D A [] := ⟨fun i j p q h => by simp at h, fun k q h => by simp at h⟩
  have hl := lv_entry ([.ref b]) (n := 7) (Nat.le_of_ble_eq_true rfl)
  rw [lg_entry_eq]
  generalize (lg_sl ([.ref b]) ++ List.replicate (7 - (lg_sl ([.ref b])).length) Slot.unset).toArray = ls at hl ⊢
  have hl : lv_has ls 7 [(0, .ref b)] := hl
  refine va_new (ci := 0) (fs := [.null, .null, .int 0, .int 0, .int 0, .int 0, .int 0]) (C := RX0) (T := TX0) (N := 7) hx hb hbg in_X0 tyX0 tyX0_ok hown (hbg _ kw_141) (hbg _ kw_139) (hbg _ kw_6) hK hP hD hS hA rfl (fun j hj => by rcases (show j = 0 ∨ j = 1 ∨ j = 2 ∨ j = 3 ∨ j = 4 ∨ j = 5 ∨ j = 6 by omega) with rfl | rfl | rfl | rfl | rfl | rfl | rfl <;> rfl) (Nat.le_of_ble_eq_true rfl) (Nat.le_of_ble_eq_true rfl) dL_law_0 (fun qA H hP hD hS => ?_)
  have hP : va_P (dC, dI) vwCl [(qA, .inr (0, [.null, .null, .int 0, .int 0, .int 0, .int 0, .int 0]))] H := hP
  have hD : va_D A [(qA, .inr (0, [.null, .null, .int 0, .int 0, .int 0, .int 0, .int 0]))] := hD
  refine W.widen (k := 1) (n := 7) (by omega) (by omega) ?_
  refine lv_dup hx hb dL_law_3 rfl ?_
  have hPc := hP.sub (ws' := [(qA, .inr (0, [.null, .null, .int 0, .int 0, .int 0, .int 0, .int 0]))]) [0] rfl
  have hDc := hD.sub (ws' := [(qA, .inr (0, [.null, .null, .int 0, .int 0, .int 0, .int 0, .int 0]))]) [0] (by decide) rfl
  have hKc2 := hK.sub (tys' := []) [] rfl
  have hFc := va_free (wc := [(qA, .inr (0, [.null, .null, .int 0, .int 0, .int 0, .int 0, .int 0]))]) hD hS hA [0] rfl
  refine va_callv (va_runI (As := []) (rest := [.ref qA]) ⟨hx, hb, hml, hown, hbg⟩ (met_X0_init l dC dI qA H.size) (cwI 0 hbg gI_X0_init rfl rfl rfl (hbg _ kw_6) (hbg _ kw_143) (hbg _ kw_144) rfl (by decide +kernel) ⟨Nat.le_of_ble_eq_true rfl, Nat.le_of_ble_eq_true rfl⟩) ⟨fun a U g mk q => by obtain ⟨q0, q1, qP, qK, qD⟩ := q; exact ⟨q0, q1, qP, va_K.moved (u := U) (U := U.calling g mk a) (Vm.Alike.refl U.vm) qK, qD⟩, fun U hU hW => ⟨rfl, by rw [hU], by rw [hU]; exact hPc, va_K.moved hW.alike hKc2, hDc.weaken (fun _ _ _ _ => trivial)⟩⟩ rfl rfl hl.1 rfl (lv_room (Nat.le_of_ble_eq_true rfl)) dL_law_4 ⟨Nat.le_of_ble_eq_true rfl, Nat.le_of_ble_eq_true rfl⟩) hS (fun q _ h => hFc q h) hFc (fun u t H1 locs ht hvm hw hB hz1 hk1 hS => ?_)
  obtain ⟨qA_ring, qA_buffer, cA_ring, cA_buffer, hP1, hK1, hD1⟩ := hB
  rw [ht] at hP1
  have hK1 := va_K.moved hvm.symm hK1
  obtain ⟨hP, hD⟩ := va_join (wr := []) (w1 := [(qA, .inr (0, [.ref qA_ring, .ref qA_buffer, .int (0 : Int32), .int (0 : Int32), .int (0 : Int32), .int (-1 : Int32), .int (1 : Int32)])), (qA_ring, .inl (cA_ring, 65536, .inl (fun _ => 0))), (qA_buffer, .inl (cA_buffer, 200, .inl (fun _ => 0)))]) hP hD [0] [] rfl rfl (by decide) (by decide) hk1 hFc hP1 hD1
  have hK := hK.app hK1
  generalize H1 = H at hP hS ⊢
  have hP : va_P (dC, dI) vwCl [(qA, .inr (0, [.ref qA_ring, .ref qA_buffer, .int (0 : Int32), .int (0 : Int32), .int (0 : Int32), .int (-1 : Int32), .int (1 : Int32)])), (qA_ring, .inl (cA_ring, 65536, .inl (fun _ => 0))), (qA_buffer, .inl (cA_buffer, 200, .inl (fun _ => 0)))] H := hP
  have hD : va_D A [(qA, .inr (0, [.ref qA_ring, .ref qA_buffer, .int (0 : Int32), .int (0 : Int32), .int (0 : Int32), .int (-1 : Int32), .int (1 : Int32)])), (qA_ring, .inl (cA_ring, 65536, .inl (fun _ => 0))), (qA_buffer, .inl (cA_buffer, 200, .inl (fun _ => 0)))] := hD
  have hK : va_K (dC, dI) vwCl [(cA_ring, .int), (cA_buffer, .int)] s := hK
  refine W.widen (k := 3) (n := 65743) (by omega) (by omega) ?_
  refine lv_astore_n (lv' := [(1, .ref qA), (0, .ref b)]) hx hb dL_law_7 rfl hl (by decide) rfl (fun ls hl => ?_)
  refine va_new (ci := 1) (fs := [.int 0, .null, .null, .null, .null, .null, .null, .null, .null, .null, .int 0, .int 0, .int 0, .int 0, .int 0, .int 0, .int 0, .int 0, .int 0]) (C := RX1) (T := TX1) (N := 19) hx hb hbg in_X1 tyX1 tyX1_ok hown (hbg _ kw_145) (hbg _ kw_140) (hbg _ kw_73) hK hP hD hS hA rfl (fun j hj => by rcases (show j = 0 ∨ j = 1 ∨ j = 2 ∨ j = 3 ∨ j = 4 ∨ j = 5 ∨ j = 6 ∨ j = 7 ∨ j = 8 ∨ j = 9 ∨ j = 10 ∨ j = 11 ∨ j = 12 ∨ j = 13 ∨ j = 14 ∨ j = 15 ∨ j = 16 ∨ j = 17 ∨ j = 18 by omega) with rfl | rfl | rfl | rfl | rfl | rfl | rfl | rfl | rfl | rfl | rfl | rfl | rfl | rfl | rfl | rfl | rfl | rfl | rfl <;> rfl) (Nat.le_of_ble_eq_true rfl) (Nat.le_of_ble_eq_true rfl) dL_law_8 (fun qB H hP hD hS => ?_)
  have hP : va_P (dC, dI) vwCl [(qA, .inr (0, [.ref qA_ring, .ref qA_buffer, .int (0 : Int32), .int (0 : Int32), .int (0 : Int32), .int (-1 : Int32), .int (1 : Int32)])), (qA_ring, .inl (cA_ring, 65536, .inl (fun _ => 0))), (qA_buffer, .inl (cA_buffer, 200, .inl (fun _ => 0))), (qB, .inr (1, [.int 0, .null, .null, .null, .null, .null, .null, .null, .null, .null, .int 0, .int 0, .int 0, .int 0, .int 0, .int 0, .int 0, .int 0, .int 0]))] H := hP
  have hD : va_D A [(qA, .inr (0, [.ref qA_ring, .ref qA_buffer, .int (0 : Int32), .int (0 : Int32), .int (0 : Int32), .int (-1 : Int32), .int (1 : Int32)])), (qA_ring, .inl (cA_ring, 65536, .inl (fun _ => 0))), (qA_buffer, .inl (cA_buffer, 200, .inl (fun _ => 0))), (qB, .inr (1, [.int 0, .null, .null, .null, .null, .null, .null, .null, .null, .null, .int 0, .int 0, .int 0, .int 0, .int 0, .int 0, .int 0, .int 0, .int 0]))] := hD
  refine W.widen (k := 4) (n := 65762) (by omega) (by omega) ?_
  refine lv_dup hx hb dL_law_11 rfl ?_
  have hPc := hP.sub (ws' := [(qB, .inr (1, [.int 0, .null, .null, .null, .null, .null, .null, .null, .null, .null, .int 0, .int 0, .int 0, .int 0, .int 0, .int 0, .int 0, .int 0, .int 0]))]) [3] rfl
  have hDc := hD.sub (ws' := [(qB, .inr (1, [.int 0, .null, .null, .null, .null, .null, .null, .null, .null, .null, .int 0, .int 0, .int 0, .int 0, .int 0, .int 0, .int 0, .int 0, .int 0]))]) [3] (by decide) rfl
  have hKc2 := hK.sub (tys' := []) [] rfl
  have hFc := va_free (wc := [(qB, .inr (1, [.int 0, .null, .null, .null, .null, .null, .null, .null, .null, .null, .int 0, .int 0, .int 0, .int 0, .int 0, .int 0, .int 0, .int 0, .int 0]))]) hD hS hA [3] rfl
  refine va_callv (va_runI (As := []) (rest := [.ref qB]) ⟨hx, hb, hml, hown, hbg⟩ (met_X1_init l dC dI qB H.size) (cwI 0 hbg gI_X1_init rfl rfl rfl (hbg _ kw_73) (hbg _ kw_147) (hbg _ kw_148) rfl (by decide +kernel) ⟨Nat.le_of_ble_eq_true rfl, Nat.le_of_ble_eq_true rfl⟩) ⟨fun a U g mk q => by obtain ⟨q0, q1, qP, qK, qD⟩ := q; exact ⟨q0, q1, qP, va_K.moved (u := U) (U := U.calling g mk a) (Vm.Alike.refl U.vm) qK, qD⟩, fun U hU hW => ⟨rfl, by rw [hU], by rw [hU]; exact hPc, va_K.moved hW.alike hKc2, hDc.weaken (fun _ _ _ _ => trivial)⟩⟩ rfl rfl hl.1 rfl (lv_room (Nat.le_of_ble_eq_true rfl)) dL_law_12 ⟨Nat.le_of_ble_eq_true rfl, Nat.le_of_ble_eq_true rfl⟩) hS (fun q _ h => hFc q h) hFc (fun u t H1 locs ht hvm hw hB hz1 hk1 hS => ?_)
  obtain ⟨qB_buffer, qB_words, qB_serials, qB_lengths, qB_kinds, qB_owners, qB_olders, qB_links, qB_voids, cB_buffer, cB_words, cB_serials, cB_lengths, cB_kinds, cB_owners, cB_olders, cB_links, cB_voids, hP1, hK1, hD1⟩ := hB
  rw [ht] at hP1
  have hK1 := va_K.moved hvm.symm hK1
  obtain ⟨hP, hD⟩ := va_join (wr := [(qA, .inr (0, [.ref qA_ring, .ref qA_buffer, .int (0 : Int32), .int (0 : Int32), .int (0 : Int32), .int (-1 : Int32), .int (1 : Int32)])), (qA_ring, .inl (cA_ring, 65536, .inl (fun _ => 0))), (qA_buffer, .inl (cA_buffer, 200, .inl (fun _ => 0)))]) (w1 := [(qB, .inr (1, [.int (0 : Int32), .ref qB_buffer, .ref qB_words, .ref qB_serials, .ref qB_lengths, .ref qB_kinds, .ref qB_owners, .ref qB_olders, .ref qB_links, .ref qB_voids, .int (0 : Int32), .int (0 : Int32), .int (0 : Int32), .int (0 : Int32), .int (0 : Int32), .int (0 : Int32), .int (-1 : Int32), .int (-1 : Int32), .int (0 : Int32)])), (qB_buffer, .inl (cB_buffer, 200, .inl (fun _ => 0))), (qB_words, .inl (cB_words, 65536, .inl (fun _ => 0))), (qB_serials, .inl (cB_serials, 4400, .inl (fun _ => 0))), (qB_lengths, .inl (cB_lengths, 4400, .inl (fun _ => 0))), (qB_kinds, .inl (cB_kinds, 4400, .inl (fun _ => 0))), (qB_owners, .inl (cB_owners, 4400, .inl (fun _ => 0))), (qB_olders, .inl (cB_olders, 4400, .inl (fun _ => 0))), (qB_links, .inl (cB_links, 4400, .inl (fun _ => 0))), (qB_voids, .inl (cB_voids, 4400, .inl (fun _ => 0)))]) hP hD [3] [0, 1, 2] rfl rfl (by decide) (by decide) hk1 hFc hP1 hD1
  have hK := hK.app hK1
  generalize H1 = H at hP hS ⊢
  have hP : va_P (dC, dI) vwCl [(qA, .inr (0, [.ref qA_ring, .ref qA_buffer, .int (0 : Int32), .int (0 : Int32), .int (0 : Int32), .int (-1 : Int32), .int (1 : Int32)])), (qA_ring, .inl (cA_ring, 65536, .inl (fun _ => 0))), (qA_buffer, .inl (cA_buffer, 200, .inl (fun _ => 0))), (qB, .inr (1, [.int (0 : Int32), .ref qB_buffer, .ref qB_words, .ref qB_serials, .ref qB_lengths, .ref qB_kinds, .ref qB_owners, .ref qB_olders, .ref qB_links, .ref qB_voids, .int (0 : Int32), .int (0 : Int32), .int (0 : Int32), .int (0 : Int32), .int (0 : Int32), .int (0 : Int32), .int (-1 : Int32), .int (-1 : Int32), .int (0 : Int32)])), (qB_buffer, .inl (cB_buffer, 200, .inl (fun _ => 0))), (qB_words, .inl (cB_words, 65536, .inl (fun _ => 0))), (qB_serials, .inl (cB_serials, 4400, .inl (fun _ => 0))), (qB_lengths, .inl (cB_lengths, 4400, .inl (fun _ => 0))), (qB_kinds, .inl (cB_kinds, 4400, .inl (fun _ => 0))), (qB_owners, .inl (cB_owners, 4400, .inl (fun _ => 0))), (qB_olders, .inl (cB_olders, 4400, .inl (fun _ => 0))), (qB_links, .inl (cB_links, 4400, .inl (fun _ => 0))), (qB_voids, .inl (cB_voids, 4400, .inl (fun _ => 0)))] H := hP
  have hD : va_D A [(qA, .inr (0, [.ref qA_ring, .ref qA_buffer, .int (0 : Int32), .int (0 : Int32), .int (0 : Int32), .int (-1 : Int32), .int (1 : Int32)])), (qA_ring, .inl (cA_ring, 65536, .inl (fun _ => 0))), (qA_buffer, .inl (cA_buffer, 200, .inl (fun _ => 0))), (qB, .inr (1, [.int (0 : Int32), .ref qB_buffer, .ref qB_words, .ref qB_serials, .ref qB_lengths, .ref qB_kinds, .ref qB_owners, .ref qB_olders, .ref qB_links, .ref qB_voids, .int (0 : Int32), .int (0 : Int32), .int (0 : Int32), .int (0 : Int32), .int (0 : Int32), .int (0 : Int32), .int (-1 : Int32), .int (-1 : Int32), .int (0 : Int32)])), (qB_buffer, .inl (cB_buffer, 200, .inl (fun _ => 0))), (qB_words, .inl (cB_words, 65536, .inl (fun _ => 0))), (qB_serials, .inl (cB_serials, 4400, .inl (fun _ => 0))), (qB_lengths, .inl (cB_lengths, 4400, .inl (fun _ => 0))), (qB_kinds, .inl (cB_kinds, 4400, .inl (fun _ => 0))), (qB_owners, .inl (cB_owners, 4400, .inl (fun _ => 0))), (qB_olders, .inl (cB_olders, 4400, .inl (fun _ => 0))), (qB_links, .inl (cB_links, 4400, .inl (fun _ => 0))), (qB_voids, .inl (cB_voids, 4400, .inl (fun _ => 0)))] := hD
  have hK : va_K (dC, dI) vwCl [(cA_ring, .int), (cA_buffer, .int), (cB_buffer, .int), (cB_words, .int), (cB_serials, .int), (cB_lengths, .int), (cB_kinds, .int), (cB_owners, .int), (cB_olders, .int), (cB_links, .int), (cB_voids, .boolean)] s := hK
  refine W.widen (k := 13) (n := 162298) (by omega) (by omega) ?_
  refine lv_astore_n (lv' := [(2, .ref qB), (1, .ref qA), (0, .ref b)]) hx hb dL_law_15 rfl hl (by decide) rfl (fun ls hl => ?_)
  refine lv_iconst (v := (1 : Int32)) hx hb dL_law_16 (by decide) ?_
  refine va_newa (atype := .long) hx hb (hbg _ kw_149) (ty := .long) rfl hK hP hD hS hA (N' := 1) (a0 := (1, .inr (.inl (fun _ => 0)))) (fun _ => rfl) (by decide) (by decide) (by decide) (Nat.le_of_ble_eq_true rfl) (Nat.le_of_ble_eq_true rfl) dL_law_17 (fun qO cO H hK hP hD hS => ?_)
  have hP : va_P (dC, dI) vwCl [(qA, .inr (0, [.ref qA_ring, .ref qA_buffer, .int (0 : Int32), .int (0 : Int32), .int (0 : Int32), .int (-1 : Int32), .int (1 : Int32)])), (qA_ring, .inl (cA_ring, 65536, .inl (fun _ => 0))), (qA_buffer, .inl (cA_buffer, 200, .inl (fun _ => 0))), (qB, .inr (1, [.int (0 : Int32), .ref qB_buffer, .ref qB_words, .ref qB_serials, .ref qB_lengths, .ref qB_kinds, .ref qB_owners, .ref qB_olders, .ref qB_links, .ref qB_voids, .int (0 : Int32), .int (0 : Int32), .int (0 : Int32), .int (0 : Int32), .int (0 : Int32), .int (0 : Int32), .int (-1 : Int32), .int (-1 : Int32), .int (0 : Int32)])), (qB_buffer, .inl (cB_buffer, 200, .inl (fun _ => 0))), (qB_words, .inl (cB_words, 65536, .inl (fun _ => 0))), (qB_serials, .inl (cB_serials, 4400, .inl (fun _ => 0))), (qB_lengths, .inl (cB_lengths, 4400, .inl (fun _ => 0))), (qB_kinds, .inl (cB_kinds, 4400, .inl (fun _ => 0))), (qB_owners, .inl (cB_owners, 4400, .inl (fun _ => 0))), (qB_olders, .inl (cB_olders, 4400, .inl (fun _ => 0))), (qB_links, .inl (cB_links, 4400, .inl (fun _ => 0))), (qB_voids, .inl (cB_voids, 4400, .inl (fun _ => 0))), (qO, .inl (cO, 1, .inr (.inl (fun _ => 0))))] H := hP
  have hD : va_D A [(qA, .inr (0, [.ref qA_ring, .ref qA_buffer, .int (0 : Int32), .int (0 : Int32), .int (0 : Int32), .int (-1 : Int32), .int (1 : Int32)])), (qA_ring, .inl (cA_ring, 65536, .inl (fun _ => 0))), (qA_buffer, .inl (cA_buffer, 200, .inl (fun _ => 0))), (qB, .inr (1, [.int (0 : Int32), .ref qB_buffer, .ref qB_words, .ref qB_serials, .ref qB_lengths, .ref qB_kinds, .ref qB_owners, .ref qB_olders, .ref qB_links, .ref qB_voids, .int (0 : Int32), .int (0 : Int32), .int (0 : Int32), .int (0 : Int32), .int (0 : Int32), .int (0 : Int32), .int (-1 : Int32), .int (-1 : Int32), .int (0 : Int32)])), (qB_buffer, .inl (cB_buffer, 200, .inl (fun _ => 0))), (qB_words, .inl (cB_words, 65536, .inl (fun _ => 0))), (qB_serials, .inl (cB_serials, 4400, .inl (fun _ => 0))), (qB_lengths, .inl (cB_lengths, 4400, .inl (fun _ => 0))), (qB_kinds, .inl (cB_kinds, 4400, .inl (fun _ => 0))), (qB_owners, .inl (cB_owners, 4400, .inl (fun _ => 0))), (qB_olders, .inl (cB_olders, 4400, .inl (fun _ => 0))), (qB_links, .inl (cB_links, 4400, .inl (fun _ => 0))), (qB_voids, .inl (cB_voids, 4400, .inl (fun _ => 0))), (qO, .inl (cO, 1, .inr (.inl (fun _ => 0))))] := hD
  have hK : va_K (dC, dI) vwCl [(cA_ring, .int), (cA_buffer, .int), (cB_buffer, .int), (cB_words, .int), (cB_serials, .int), (cB_lengths, .int), (cB_kinds, .int), (cB_owners, .int), (cB_olders, .int), (cB_links, .int), (cB_voids, .boolean), (cO, .long)] s := hK
  refine W.widen (k := 14) (n := 162299) (by omega) (by omega) ?_
  refine lv_astore_n (lv' := [(3, .ref qO), (2, .ref qB), (1, .ref qA), (0, .ref b)]) hx hb dL_law_19 rfl hl (by decide) rfl (fun ls hl => ?_)
  refine lv_iconst (v := (0 : Int32)) hx hb dL_law_20 (by decide) ?_
  refine lv_istore (lv' := [(4, .int (0 : Int32)), (3, .ref qO), (2, .ref qB), (1, .ref qA), (0, .ref b)]) hx hb dL_law_21 hl (by decide) rfl (fun ls hl => ?_)
  exact law_loop hl9 hL C0 hAe hA hbA hXW0 hK Rel hstep hfull (L + 1) 0 (fun _ => 0) (fun _ => 0) (0 : Int32) (0 : Int32) (0 : Int32) (-1 : Int32) (1 : Int32) (0 : Int32) (fun _ => 0) (fun _ => 0) (fun _ => 0) (fun _ => 0) (fun _ => 0) (fun _ => 0) (fun _ => 0) (fun _ => 0) (fun _ => 0) (0 : Int32) (0 : Int32) (0 : Int32) (0 : Int32) (0 : Int32) (0 : Int32) (-1 : Int32) (-1 : Int32) (0 : Int32) (fun _ => 0) _ _ _ _ (by omega) (by omega) (by omega) (by omega) hrel0 hP hD hS ls (lv_sub hl [4, 3, 2, 1, 0] rfl)
