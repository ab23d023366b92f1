def wp_L_set (post : Int32 → St_A → Prop) (x1 : Int32) (x2 : Int32) (A_ring : Nat → Int32) (A_buffer : Nat → Int32) (A_firstPlace : Int32) (A_forcedPlace : Int32) (A_endPlace : Int32) (A_wordsToFailure : Int32) (A_opened : Int32) : Prop :=
  wp_X0_set (fun u_1 => match u_1 with | (A_ring_1, A_buffer_1, A_firstPlace_1, A_forcedPlace_1, A_endPlace_1, A_wordsToFailure_1, A_opened_1) => post (0 : Int32) (A_ring_1, A_buffer_1, A_firstPlace_1, A_forcedPlace_1, A_endPlace_1, A_wordsToFailure_1, A_opened_1)) (fun E9 u9 => match u9 with | (A_ring_x1, A_buffer_x1, A_firstPlace_x1, A_forcedPlace_x1, A_endPlace_x1, A_wordsToFailure_x1, A_opened_x1) => (E9 = "java/lang/IllegalStateException" ∧ post (1 : Int32) (A_ring_x1, A_buffer_x1, A_firstPlace_x1, A_forcedPlace_x1, A_endPlace_x1, A_wordsToFailure_x1, A_opened_x1)) ∨ (E9 = "java/lang/IndexOutOfBoundsException" ∧ post (2 : Int32) (A_ring_x1, A_buffer_x1, A_firstPlace_x1, A_forcedPlace_x1, A_endPlace_x1, A_wordsToFailure_x1, A_opened_x1))) x1 x2 A_ring A_buffer A_firstPlace A_forcedPlace A_endPlace A_wordsToFailure A_opened
set_option maxHeartbeats 4000000 in
set_option maxRecDepth 100000 in
theorem met_L_set (l : Launch) (hl9 : l.stackTraces = false) (dC : Nat → ClassId) (dI : Nat → Nat → Nat) (qA qA_ring qA_buffer : Nat) (cA_ring cA_buffer : ClassId) (sz : Nat) (A_ring : Nat → Int32) (A_buffer : Nat → Int32) (A_firstPlace : Int32) (A_forcedPlace : Int32) (A_endPlace : Int32) (A_wordsToFailure : Int32) (A_opened : Int32) (x1 : Int32) (x2 : Int32) (post : Int32 → St_A → Prop) (hw : wp_L_set post x1 x2 A_ring A_buffer A_firstPlace A_forcedPlace A_endPlace A_wordsToFailure A_opened) :
    Met l yL_set wsL_set ({ frames := 8, cells := 2, slots := 12, locals := 138 } : Room) (pcX_A dC dI qA qA_ring qA_buffer cA_ring cA_buffer sz A_ring A_buffer A_firstPlace A_forcedPlace A_endPlace A_wordsToFailure A_opened [.ref qA, .int x1, .int x2]) (va_Qi post (at_A dC dI (va_A [(qA, .inr (0, [.ref qA_ring, .ref qA_buffer, .int A_firstPlace, .int A_forcedPlace, .int A_endPlace, .int A_wordsToFailure, .int A_opened])), (qA_ring, .inl (cA_ring, 65536, .inl A_ring)), (qA_buffer, .inl (cA_buffer, 200, .inl A_buffer))] sz) qA qA_ring qA_buffer cA_ring cA_buffer) (va_A [(qA, .inr (0, [.ref qA_ring, .ref qA_buffer, .int A_firstPlace, .int A_forcedPlace, .int A_endPlace, .int A_wordsToFailure, .int A_opened])), (qA_ring, .inl (cA_ring, 65536, .inl A_ring)), (qA_buffer, .inl (cA_buffer, 200, .inl A_buffer))] sz)) 2 12 (va_A [(qA, .inr (0, [.ref qA_ring, .ref qA_buffer, .int A_firstPlace, .int A_forcedPlace, .int A_endPlace, .int A_wordsToFailure, .int A_opened])), (qA_ring, .inl (cA_ring, 65536, .inl A_ring)), (qA_buffer, .inl (cA_buffer, 200, .inl A_buffer))] sz) := by
  refine va_MetW (cc := cL_set) (maxL := 4) (ret := (some .int)) (by decide) rfl ?_
  intro p e s m args below meth c s₁ B hml hv
  obtain ⟨hav, hsz, hP, hK, hD0, hXW0⟩ := hv
  have hx := B.exec
  have hb := B.bytes
  have hr := B.returns
  have hts := atoms_spec (ws := wsL_set) B.pre
  have hbg : ∀ w ∈ bigW, w.before args s = true := fun w h => hts w (List.mem_cons_of_mem _ h)
  have hown : s.vm.findClass RL = some m.cls := findClass_of_methodNamed B.named
  have hlocks := B.notSynchronized
  have hTab : c.exceptionTable.toList = tableOf [(0, 6, 9, 13), (0, 6, 12, 15)] := vx_table (x := yL_set) B (hts _ List.mem_cons_self)
  subst hsz
  have hD := hD0.self (sz := s.heap.size)
  generalize hAe : va_A [(qA, .inr (0, [.ref qA_ring, .ref qA_buffer, .int A_firstPlace, .int A_forcedPlace, .int A_endPlace, .int A_wordsToFailure, .int A_opened])), (qA_ring, .inl (cA_ring, 65536, .inl A_ring)), (qA_buffer, .inl (cA_buffer, 200, .inl A_buffer))] s.heap.size = A at hD hXW0 ⊢
  have hA : ∀ q : Nat, s.heap.size ≤ q → A q := fun q h => by rw [← hAe]; exact Or.inr h
  have hS : va_S A s.heap s.heap [] := va_S.rf
  have hP : va_P (dC, dI) vwCl [(qA, .inr (0, [.ref qA_ring, .ref qA_buffer, .int A_firstPlace, .int A_forcedPlace, .int A_endPlace, .int A_wordsToFailure, .int A_opened])), (qA_ring, .inl (cA_ring, 65536, .inl A_ring)), (qA_buffer, .inl (cA_buffer, 200, .inl A_buffer))] s.heap := hP
  generalize hQQ : MQ below (va_Qi post (at_A dC dI A qA qA_ring qA_buffer cA_ring cA_buffer) A) args s 2 12 A = QQ
  have hl := lv_entry ([.ref qA, .int x1, .int x2]) (n := 4) (Nat.le_of_ble_eq_true rfl)
  rw [show entryFrame m args 4 = entryFrame m ([.ref qA, .int x1, .int x2] : List Value).toArray 4 by rw [hav], lg_entry_eq]
  generalize (lg_sl ([.ref qA, .int x1, .int x2]) ++ List.replicate (4 - (lg_sl ([.ref qA, .int x1, .int x2])).length) Slot.unset).toArray = ls at hl ⊢
  have hl : lv_has ls 4 [(0, .ref qA), (1, .int x1), (2, .int x2)] := hl
  unfold wp_L_set at hw
  refine lv_aload_n hx hb dL_set_0 rfl (lv_at hl 0 rfl) ?_
  refine lv_iload_n hx hb dL_set_1 rfl (lv_at hl 1 rfl) ?_
  refine lv_iload_n hx hb dL_set_2 rfl (lv_at hl 2 rfl) ?_
  have hFc := va_free (wc := [(qA, .inr (0, [.ref qA_ring, .ref qA_buffer, .int A_firstPlace, .int A_forcedPlace, .int A_endPlace, .int A_wordsToFailure, .int A_opened])), (qA_ring, .inl (cA_ring, 65536, .inl A_ring)), (qA_buffer, .inl (cA_buffer, 200, .inl A_buffer))]) hD hS hA [0, 1, 2] rfl
  refine vx_callv (vx_runV (As := [.int x1, .int x2]) (rest := []) ⟨hx, hb, hml, hown, hbg⟩ (met_X0_set l hl9 dC dI qA qA_ring qA_buffer cA_ring cA_buffer s.heap.size A_ring A_buffer A_firstPlace A_forcedPlace A_endPlace A_wordsToFailure A_opened x1 x2 _ _ hw) (cwV 2 hbg g_RL_7 rfl rfl rfl (by decide +kernel) ⟨Nat.le_of_ble_eq_true rfl, Nat.le_of_ble_eq_true rfl⟩) ⟨pcX_A_b _ _ _ _ _ _ _ _ _ _ _ _ _ _ _ _, va_recv hK hP (ci := 0) (q0 := 0) rfl rfl, fun U hU hW => ⟨rfl, by rw [hU], by rw [hU]; exact hP, va_K.moved hW.alike hK, hD.weaken (fun _ _ _ _ => trivial), XW.go hXW0 hS hFc hU hW⟩⟩ rfl rfl hl.1 rfl (lv_room (Nat.le_of_ble_eq_true rfl)) dL_set_3 ⟨Nat.le_of_ble_eq_true rfl, Nat.le_of_ble_eq_true rfl⟩) hS (fun q _ h => hFc q h) hFc (fun q _ h => hFc q h) (fun E9 ce9 q9 u9 t9 H_1 locs ht hvm hpx hBX hz1 hk1 hS hce hcv hcl => ?_) (fun u_1 t_1 H_1 locs ht hvm hw hB hz1 hk1 hS => ?_)
  · obtain ⟨E8, A_ring_x1, A_buffer_x1, A_firstPlace_x1, A_forcedPlace_x1, A_endPlace_x1, A_wordsToFailure_x1, A_opened_x1⟩ := u9
    obtain ⟨rfl, hP1, hK1, hD1⟩ := hBX
    rw [ht] at hP1
    have hP : va_P (dC, dI) vwCl [(qA, .inr (0, [.ref qA_ring, .ref qA_buffer, .int A_firstPlace_x1, .int A_forcedPlace_x1, .int A_endPlace_x1, .int A_wordsToFailure_x1, .int A_opened_x1])), (qA_ring, .inl (cA_ring, 65536, .inl A_ring_x1)), (qA_buffer, .inl (cA_buffer, 200, .inl A_buffer_x1))] H_1 := hP1
    have hD : va_D A [(qA, .inr (0, [.ref qA_ring, .ref qA_buffer, .int A_firstPlace_x1, .int A_forcedPlace_x1, .int A_endPlace_x1, .int A_wordsToFailure_x1, .int A_opened_x1])), (qA_ring, .inl (cA_ring, 65536, .inl A_ring_x1)), (qA_buffer, .inl (cA_buffer, 200, .inl A_buffer_x1))] := hD1.weaken (fun _ _ _ h => hFc _ h)
    try dsimp only at hpx
    rcases hpx with ⟨rfl, hw⟩ | ⟨rfl, hw⟩
    · refine vx_widen (k := 2) (n := 12) (Nat.le_of_ble_eq_true rfl) (Nat.le_of_ble_eq_true rfl) ?_
      refine vx_catch (own := RL) (name := "java/lang/IllegalStateException") (E := "java/lang/IllegalStateException") hown [] ⟨0, 6, 9, 13⟩ [⟨0, 6, 12, 15⟩] (by rw [hTab]; rfl) (fun z hz => nomatch hz) (by decide) (by decide) (hbg _ kw_186) (va_Nw.use rfl (hXW0.1 "java/lang/IllegalStateException" (by decide))) hce hcv hcl ?_
      refine lv_astore_n (lv' := [(3, .ref q9), (0, .ref qA), (1, .int x1), (2, .int x2)]) hx hb dL_set_9 rfl hl (by decide) rfl (fun ls hl => ?_)
      refine lv_iconst (v := (1 : Int32)) hx hb dL_set_10 (by decide) ?_
      subst hQQ
      refine W.widen (k := 2) (n := 12) (Nat.le_of_ble_eq_true rfl) (Nat.le_of_ble_eq_true rfl) ?_
      exact W.iret (v := (1 : Int32)) hx hb hr (fun t ht hW => ⟨⟨(1 : Int32), (A_ring_x1, A_buffer_x1, A_firstPlace_x1, A_forcedPlace_x1, A_endPlace_x1, A_wordsToFailure_x1, A_opened_x1), rfl, hw, by rw [ht]; exact hP, va_K.moved hW.alike hK, hD⟩, hS.F ht⟩) hS.2.2 dL_set_11
    · refine vx_widen (k := 2) (n := 12) (Nat.le_of_ble_eq_true rfl) (Nat.le_of_ble_eq_true rfl) ?_
      refine vx_catch (own := RL) (name := "java/lang/IndexOutOfBoundsException") (E := "java/lang/IndexOutOfBoundsException") hown [⟨0, 6, 9, 13⟩] ⟨0, 6, 12, 15⟩ [] (by rw [hTab]; rfl) (by
        intro z hz
        rcases List.mem_cons.mp hz with rfl | hz
        · exact Or.inr ⟨by decide, "java/lang/IllegalStateException", hbg _ kw_186, hXW0.2.2.2.1 ("java/lang/IndexOutOfBoundsException", "java/lang/IllegalStateException") (by decide)⟩
        cases hz) (by decide) (by decide) (hbg _ kw_187) (va_Nw.use rfl (hXW0.1 "java/lang/IndexOutOfBoundsException" (by decide))) hce hcv hcl ?_
      refine lv_astore_n (lv' := [(3, .ref q9), (0, .ref qA), (1, .int x1), (2, .int x2)]) hx hb dL_set_12 rfl hl (by decide) rfl (fun ls hl => ?_)
      refine lv_iconst (v := (2 : Int32)) hx hb dL_set_13 (by decide) ?_
      subst hQQ
      refine W.widen (k := 2) (n := 12) (Nat.le_of_ble_eq_true rfl) (Nat.le_of_ble_eq_true rfl) ?_
      exact W.iret (v := (2 : Int32)) hx hb hr (fun t ht hW => ⟨⟨(2 : Int32), (A_ring_x1, A_buffer_x1, A_firstPlace_x1, A_forcedPlace_x1, A_endPlace_x1, A_wordsToFailure_x1, A_opened_x1), rfl, hw, by rw [ht]; exact hP, va_K.moved hW.alike hK, hD⟩, hS.F ht⟩) hS.2.2 dL_set_14
  · obtain ⟨A_ring_1, A_buffer_1, A_firstPlace_1, A_forcedPlace_1, A_endPlace_1, A_wordsToFailure_1, A_opened_1⟩ := u_1
    obtain ⟨hP1, hK1, hD1⟩ := hB
    rw [ht] at hP1
    try dsimp only at hw
    have hP : va_P (dC, dI) vwCl [(qA, .inr (0, [.ref qA_ring, .ref qA_buffer, .int A_firstPlace_1, .int A_forcedPlace_1, .int A_endPlace_1, .int A_wordsToFailure_1, .int A_opened_1])), (qA_ring, .inl (cA_ring, 65536, .inl A_ring_1)), (qA_buffer, .inl (cA_buffer, 200, .inl A_buffer_1))] H_1 := hP1
    have hD : va_D A [(qA, .inr (0, [.ref qA_ring, .ref qA_buffer, .int A_firstPlace_1, .int A_forcedPlace_1, .int A_endPlace_1, .int A_wordsToFailure_1, .int A_opened_1])), (qA_ring, .inl (cA_ring, 65536, .inl A_ring_1)), (qA_buffer, .inl (cA_buffer, 200, .inl A_buffer_1))] := hD1.weaken (fun _ _ _ h => hFc _ h)
    refine W.widen (k := 2) (n := 12) (Nat.le_of_ble_eq_true rfl) (Nat.le_of_ble_eq_true rfl) ?_
    refine lv_goto (tgt := 15) hx hb dL_set_6 (by decide) ?_
    refine lv_iconst (v := (0 : Int32)) hx hb dL_set_15 (by decide) ?_
    subst hQQ
    refine W.widen (k := 2) (n := 12) (Nat.le_of_ble_eq_true rfl) (Nat.le_of_ble_eq_true rfl) ?_
    exact W.iret (v := (0 : Int32)) hx hb hr (fun t ht hW => ⟨⟨(0 : Int32), (A_ring_1, A_buffer_1, A_firstPlace_1, A_forcedPlace_1, A_endPlace_1, A_wordsToFailure_1, A_opened_1), rfl, hw, by rw [ht]; exact hP, va_K.moved hW.alike hK, hD⟩, hS.F ht⟩) hS.2.2 dL_set_16
def wp_L_fill (post : Int32 → St_A → Prop) (x1 : Int32) (x2 : Int32) (A_ring : Nat → Int32) (A_buffer : Nat → Int32) (A_firstPlace : Int32) (A_forcedPlace : Int32) (A_endPlace : Int32) (A_wordsToFailure : Int32) (A_opened : Int32) : Prop :=
  wp_X0_fill (fun u_1 => match u_1 with | (A_ring_1, A_buffer_1, A_firstPlace_1, A_forcedPlace_1, A_endPlace_1, A_wordsToFailure_1, A_opened_1) => post (0 : Int32) (A_ring_1, A_buffer_1, A_firstPlace_1, A_forcedPlace_1, A_endPlace_1, A_wordsToFailure_1, A_opened_1)) (fun E9 u9 => match u9 with | (A_ring_x1, A_buffer_x1, A_firstPlace_x1, A_forcedPlace_x1, A_endPlace_x1, A_wordsToFailure_x1, A_opened_x1) => (E9 = "java/lang/IllegalStateException" ∧ post (1 : Int32) (A_ring_x1, A_buffer_x1, A_firstPlace_x1, A_forcedPlace_x1, A_endPlace_x1, A_wordsToFailure_x1, A_opened_x1))) x1 x2 A_ring A_buffer A_firstPlace A_forcedPlace A_endPlace A_wordsToFailure A_opened
set_option maxHeartbeats 4000000 in
set_option maxRecDepth 100000 in
theorem met_L_fill (l : Launch) (hl9 : l.stackTraces = false) (dC : Nat → ClassId) (dI : Nat → Nat → Nat) (qA qA_ring qA_buffer : Nat) (cA_ring cA_buffer : ClassId) (sz : Nat) (A_ring : Nat → Int32) (A_buffer : Nat → Int32) (A_firstPlace : Int32) (A_forcedPlace : Int32) (A_endPlace : Int32) (A_wordsToFailure : Int32) (A_opened : Int32) (x1 : Int32) (x2 : Int32) (post : Int32 → St_A → Prop) (hw : wp_L_fill post x1 x2 A_ring A_buffer A_firstPlace A_forcedPlace A_endPlace A_wordsToFailure A_opened) :
    Met l yL_fill wsL_fill ({ frames := 8, cells := 1, slots := 6, locals := 138 } : Room) (pcX_A dC dI qA qA_ring qA_buffer cA_ring cA_buffer sz A_ring A_buffer A_firstPlace A_forcedPlace A_endPlace A_wordsToFailure A_opened [.ref qA, .int x1, .int x2]) (va_Qi post (at_A dC dI (va_A [(qA, .inr (0, [.ref qA_ring, .ref qA_buffer, .int A_firstPlace, .int A_forcedPlace, .int A_endPlace, .int A_wordsToFailure, .int A_opened])), (qA_ring, .inl (cA_ring, 65536, .inl A_ring)), (qA_buffer, .inl (cA_buffer, 200, .inl A_buffer))] sz) qA qA_ring qA_buffer cA_ring cA_buffer) (va_A [(qA, .inr (0, [.ref qA_ring, .ref qA_buffer, .int A_firstPlace, .int A_forcedPlace, .int A_endPlace, .int A_wordsToFailure, .int A_opened])), (qA_ring, .inl (cA_ring, 65536, .inl A_ring)), (qA_buffer, .inl (cA_buffer, 200, .inl A_buffer))] sz)) 1 6 (va_A [(qA, .inr (0, [.ref qA_ring, .ref qA_buffer, .int A_firstPlace, .int A_forcedPlace, .int A_endPlace, .int A_wordsToFailure, .int A_opened])), (qA_ring, .inl (cA_ring, 65536, .inl A_ring)), (qA_buffer, .inl (cA_buffer, 200, .inl A_buffer))] sz) := by
  refine va_MetW (cc := cL_fill) (maxL := 4) (ret := (some .int)) (by decide) rfl ?_
  intro p e s m args below meth c s₁ B hml hv
  obtain ⟨hav, hsz, hP, hK, hD0, hXW0⟩ := hv
  have hx := B.exec
  have hb := B.bytes
  have hr := B.returns
  have hts := atoms_spec (ws := wsL_fill) B.pre
  have hbg : ∀ w ∈ bigW, w.before args s = true := fun w h => hts w (List.mem_cons_of_mem _ h)
  have hown : s.vm.findClass RL = some m.cls := findClass_of_methodNamed B.named
  have hlocks := B.notSynchronized
  have hTab : c.exceptionTable.toList = tableOf [(0, 6, 9, 13)] := vx_table (x := yL_fill) B (hts _ List.mem_cons_self)
  subst hsz
  have hD := hD0.self (sz := s.heap.size)
  generalize hAe : va_A [(qA, .inr (0, [.ref qA_ring, .ref qA_buffer, .int A_firstPlace, .int A_forcedPlace, .int A_endPlace, .int A_wordsToFailure, .int A_opened])), (qA_ring, .inl (cA_ring, 65536, .inl A_ring)), (qA_buffer, .inl (cA_buffer, 200, .inl A_buffer))] s.heap.size = A at hD hXW0 ⊢
  have hA : ∀ q : Nat, s.heap.size ≤ q → A q := fun q h => by rw [← hAe]; exact Or.inr h
  have hS : va_S A s.heap s.heap [] := va_S.rf
  have hP : va_P (dC, dI) vwCl [(qA, .inr (0, [.ref qA_ring, .ref qA_buffer, .int A_firstPlace, .int A_forcedPlace, .int A_endPlace, .int A_wordsToFailure, .int A_opened])), (qA_ring, .inl (cA_ring, 65536, .inl A_ring)), (qA_buffer, .inl (cA_buffer, 200, .inl A_buffer))] s.heap := hP
  generalize hQQ : MQ below (va_Qi post (at_A dC dI A qA qA_ring qA_buffer cA_ring cA_buffer) A) args s 1 6 A = QQ
  have hl := lv_entry ([.ref qA, .int x1, .int x2]) (n := 4) (Nat.le_of_ble_eq_true rfl)
  rw [show entryFrame m args 4 = entryFrame m ([.ref qA, .int x1, .int x2] : List Value).toArray 4 by rw [hav], lg_entry_eq]
  generalize (lg_sl ([.ref qA, .int x1, .int x2]) ++ List.replicate (4 - (lg_sl ([.ref qA, .int x1, .int x2])).length) Slot.unset).toArray = ls at hl ⊢
  have hl : lv_has ls 4 [(0, .ref qA), (1, .int x1), (2, .int x2)] := hl
  unfold wp_L_fill at hw
  refine lv_aload_n hx hb dL_fill_0 rfl (lv_at hl 0 rfl) ?_
  refine lv_iload_n hx hb dL_fill_1 rfl (lv_at hl 1 rfl) ?_
  refine lv_iload_n hx hb dL_fill_2 rfl (lv_at hl 2 rfl) ?_
  have hFc := va_free (wc := [(qA, .inr (0, [.ref qA_ring, .ref qA_buffer, .int A_firstPlace, .int A_forcedPlace, .int A_endPlace, .int A_wordsToFailure, .int A_opened])), (qA_ring, .inl (cA_ring, 65536, .inl A_ring)), (qA_buffer, .inl (cA_buffer, 200, .inl A_buffer))]) hD hS hA [0, 1, 2] rfl
  refine vx_callv (vx_runV (As := [.int x1, .int x2]) (rest := []) ⟨hx, hb, hml, hown, hbg⟩ (met_X0_fill l hl9 dC dI qA qA_ring qA_buffer cA_ring cA_buffer s.heap.size A_ring A_buffer A_firstPlace A_forcedPlace A_endPlace A_wordsToFailure A_opened x1 x2 _ _ hw) (cwV 2 hbg g_RL_17 rfl rfl rfl (by decide +kernel) ⟨Nat.le_of_ble_eq_true rfl, Nat.le_of_ble_eq_true rfl⟩) ⟨pcX_A_b _ _ _ _ _ _ _ _ _ _ _ _ _ _ _ _, va_recv hK hP (ci := 0) (q0 := 0) rfl rfl, fun U hU hW => ⟨rfl, by rw [hU], by rw [hU]; exact hP, va_K.moved hW.alike hK, hD.weaken (fun _ _ _ _ => trivial), XW.go hXW0 hS hFc hU hW⟩⟩ rfl rfl hl.1 rfl (lv_room (Nat.le_of_ble_eq_true rfl)) dL_fill_3 ⟨Nat.le_of_ble_eq_true rfl, Nat.le_of_ble_eq_true rfl⟩) hS (fun q _ h => hFc q h) hFc (fun q _ h => hFc q h) (fun E9 ce9 q9 u9 t9 H_1 locs ht hvm hpx hBX hz1 hk1 hS hce hcv hcl => ?_) (fun u_1 t_1 H_1 locs ht hvm hw hB hz1 hk1 hS => ?_)
  · obtain ⟨E8, A_ring_x1, A_buffer_x1, A_firstPlace_x1, A_forcedPlace_x1, A_endPlace_x1, A_wordsToFailure_x1, A_opened_x1⟩ := u9
    obtain ⟨rfl, hP1, hK1, hD1⟩ := hBX
    rw [ht] at hP1
    have hP : va_P (dC, dI) vwCl [(qA, .inr (0, [.ref qA_ring, .ref qA_buffer, .int A_firstPlace_x1, .int A_forcedPlace_x1, .int A_endPlace_x1, .int A_wordsToFailure_x1, .int A_opened_x1])), (qA_ring, .inl (cA_ring, 65536, .inl A_ring_x1)), (qA_buffer, .inl (cA_buffer, 200, .inl A_buffer_x1))] H_1 := hP1
    have hD : va_D A [(qA, .inr (0, [.ref qA_ring, .ref qA_buffer, .int A_firstPlace_x1, .int A_forcedPlace_x1, .int A_endPlace_x1, .int A_wordsToFailure_x1, .int A_opened_x1])), (qA_ring, .inl (cA_ring, 65536, .inl A_ring_x1)), (qA_buffer, .inl (cA_buffer, 200, .inl A_buffer_x1))] := hD1.weaken (fun _ _ _ h => hFc _ h)
    try dsimp only at hpx
    rcases hpx with ⟨rfl, hw⟩
    · refine vx_widen (k := 1) (n := 6) (Nat.le_of_ble_eq_true rfl) (Nat.le_of_ble_eq_true rfl) ?_
      refine vx_catch (own := RL) (name := "java/lang/IllegalStateException") (E := "java/lang/IllegalStateException") hown [] ⟨0, 6, 9, 13⟩ [] (by rw [hTab]; rfl) (fun z hz => nomatch hz) (by decide) (by decide) (hbg _ kw_186) (va_Nw.use rfl (hXW0.1 "java/lang/IllegalStateException" (by decide))) hce hcv hcl ?_
      refine lv_astore_n (lv' := [(3, .ref q9), (0, .ref qA), (1, .int x1), (2, .int x2)]) hx hb dL_fill_9 rfl hl (by decide) rfl (fun ls hl => ?_)
      refine lv_iconst (v := (1 : Int32)) hx hb dL_fill_10 (by decide) ?_
      subst hQQ
      refine W.widen (k := 1) (n := 6) (Nat.le_of_ble_eq_true rfl) (Nat.le_of_ble_eq_true rfl) ?_
      exact W.iret (v := (1 : Int32)) hx hb hr (fun t ht hW => ⟨⟨(1 : Int32), (A_ring_x1, A_buffer_x1, A_firstPlace_x1, A_forcedPlace_x1, A_endPlace_x1, A_wordsToFailure_x1, A_opened_x1), rfl, hw, by rw [ht]; exact hP, va_K.moved hW.alike hK, hD⟩, hS.F ht⟩) hS.2.2 dL_fill_11
  · obtain ⟨A_ring_1, A_buffer_1, A_firstPlace_1, A_forcedPlace_1, A_endPlace_1, A_wordsToFailure_1, A_opened_1⟩ := u_1
    obtain ⟨hP1, hK1, hD1⟩ := hB
    rw [ht] at hP1
    try dsimp only at hw
    have hP : va_P (dC, dI) vwCl [(qA, .inr (0, [.ref qA_ring, .ref qA_buffer, .int A_firstPlace_1, .int A_forcedPlace_1, .int A_endPlace_1, .int A_wordsToFailure_1, .int A_opened_1])), (qA_ring, .inl (cA_ring, 65536, .inl A_ring_1)), (qA_buffer, .inl (cA_buffer, 200, .inl A_buffer_1))] H_1 := hP1
    have hD : va_D A [(qA, .inr (0, [.ref qA_ring, .ref qA_buffer, .int A_firstPlace_1, .int A_forcedPlace_1, .int A_endPlace_1, .int A_wordsToFailure_1, .int A_opened_1])), (qA_ring, .inl (cA_ring, 65536, .inl A_ring_1)), (qA_buffer, .inl (cA_buffer, 200, .inl A_buffer_1))] := hD1.weaken (fun _ _ _ h => hFc _ h)
    refine W.widen (k := 1) (n := 6) (Nat.le_of_ble_eq_true rfl) (Nat.le_of_ble_eq_true rfl) ?_
    refine lv_goto (tgt := 12) hx hb dL_fill_6 (by decide) ?_
    refine lv_iconst (v := (0 : Int32)) hx hb dL_fill_12 (by decide) ?_
    subst hQQ
    refine W.widen (k := 1) (n := 6) (Nat.le_of_ble_eq_true rfl) (Nat.le_of_ble_eq_true rfl) ?_
    exact W.iret (v := (0 : Int32)) hx hb hr (fun t ht hW => ⟨⟨(0 : Int32), (A_ring_1, A_buffer_1, A_firstPlace_1, A_forcedPlace_1, A_endPlace_1, A_wordsToFailure_1, A_opened_1), rfl, hw, by rw [ht]; exact hP, va_K.moved hW.alike hK, hD⟩, hS.F ht⟩) hS.2.2 dL_fill_13
def wp_L_append (post : Int32 → St_AO → Prop) (x1 : Int32) (x2 : Int32) (x3 : Int32) (x4 : Int32) (A_ring : Nat → Int32) (A_buffer : Nat → Int32) (A_firstPlace : Int32) (A_forcedPlace : Int32) (A_endPlace : Int32) (A_wordsToFailure : Int32) (A_opened : Int32) (O_v : Nat → Int64) : Prop :=
  wp_X0_append (fun r_1 u_1 => match u_1 with | (A_ring_1, A_buffer_1, A_firstPlace_1, A_forcedPlace_1, A_endPlace_1, A_wordsToFailure_1, A_opened_1) => vp_in (0 : Int32) 1 ∧ (post (0 : Int32) (A_ring_1, A_buffer_1, A_firstPlace_1, A_forcedPlace_1, A_endPlace_1, A_wordsToFailure_1, A_opened_1, vp_updL O_v (0 : Int32).toNatClampNeg r_1.toInt64))) (fun E9 u9 => match u9 with | (A_ring_x1, A_buffer_x1, A_firstPlace_x1, A_forcedPlace_x1, A_endPlace_x1, A_wordsToFailure_x1, A_opened_x1) => (E9 = "java/lang/IllegalStateException" ∧ post (1 : Int32) (A_ring_x1, A_buffer_x1, A_firstPlace_x1, A_forcedPlace_x1, A_endPlace_x1, A_wordsToFailure_x1, A_opened_x1, O_v)) ∨ (E9 = "java/lang/IllegalArgumentException" ∧ post (2 : Int32) (A_ring_x1, A_buffer_x1, A_firstPlace_x1, A_forcedPlace_x1, A_endPlace_x1, A_wordsToFailure_x1, A_opened_x1, O_v))) x1 x2 x3 x4 A_ring A_buffer A_firstPlace A_forcedPlace A_endPlace A_wordsToFailure A_opened
set_option maxHeartbeats 4000000 in
set_option maxRecDepth 100000 in
theorem met_L_append (l : Launch) (hl9 : l.stackTraces = false) (dC : Nat → ClassId) (dI : Nat → Nat → Nat) (qA qA_ring qA_buffer qO : Nat) (cA_ring cA_buffer cO : ClassId) (sz : Nat) (A_ring : Nat → Int32) (A_buffer : Nat → Int32) (A_firstPlace : Int32) (A_forcedPlace : Int32) (A_endPlace : Int32) (A_wordsToFailure : Int32) (A_opened : Int32) (O_v : Nat → Int64) (x1 : Int32) (x2 : Int32) (x3 : Int32) (x4 : Int32) (post : Int32 → St_AO → Prop) (hw : wp_L_append post x1 x2 x3 x4 A_ring A_buffer A_firstPlace A_forcedPlace A_endPlace A_wordsToFailure A_opened O_v) :
    Met l yL_append wsL_append ({ frames := 8, cells := 3, slots := 18, locals := 144 } : Room) (pcX_AO dC dI qA qA_ring qA_buffer qO cA_ring cA_buffer cO sz A_ring A_buffer A_firstPlace A_forcedPlace A_endPlace A_wordsToFailure A_opened O_v [.ref qA, .int x1, .int x2, .int x3, .int x4, .ref qO]) (va_Qi post (at_AO dC dI (va_A [(qA, .inr (0, [.ref qA_ring, .ref qA_buffer, .int A_firstPlace, .int A_forcedPlace, .int A_endPlace, .int A_wordsToFailure, .int A_opened])), (qA_ring, .inl (cA_ring, 65536, .inl A_ring)), (qA_buffer, .inl (cA_buffer, 200, .inl A_buffer)), (qO, .inl (cO, 1, .inr (.inl O_v)))] sz) qA qA_ring qA_buffer qO cA_ring cA_buffer cO) (va_A [(qA, .inr (0, [.ref qA_ring, .ref qA_buffer, .int A_firstPlace, .int A_forcedPlace, .int A_endPlace, .int A_wordsToFailure, .int A_opened])), (qA_ring, .inl (cA_ring, 65536, .inl A_ring)), (qA_buffer, .inl (cA_buffer, 200, .inl A_buffer)), (qO, .inl (cO, 1, .inr (.inl O_v)))] sz)) 3 18 (va_A [(qA, .inr (0, [.ref qA_ring, .ref qA_buffer, .int A_firstPlace, .int A_forcedPlace, .int A_endPlace, .int A_wordsToFailure, .int A_opened])), (qA_ring, .inl (cA_ring, 65536, .inl A_ring)), (qA_buffer, .inl (cA_buffer, 200, .inl A_buffer)), (qO, .inl (cO, 1, .inr (.inl O_v)))] sz) := by
  refine va_MetW (cc := cL_append) (maxL := 7) (ret := (some .int)) (by decide) rfl ?_
  intro p e s m args below meth c s₁ B hml hv
  obtain ⟨hav, hsz, hP, hK, hD0, hXW0⟩ := hv
  have hx := B.exec
  have hb := B.bytes
  have hr := B.returns
  have hts := atoms_spec (ws := wsL_append) B.pre
  have hbg : ∀ w ∈ bigW, w.before args s = true := fun w h => hts w (List.mem_cons_of_mem _ h)
  have hown : s.vm.findClass RL = some m.cls := findClass_of_methodNamed B.named
  have hlocks := B.notSynchronized
  have hTab : c.exceptionTable.toList = tableOf [(0, 14, 17, 13), (0, 14, 21, 24)] := vx_table (x := yL_append) B (hts _ List.mem_cons_self)
  subst hsz
  have hD := hD0.self (sz := s.heap.size)
  generalize hAe : va_A [(qA, .inr (0, [.ref qA_ring, .ref qA_buffer, .int A_firstPlace, .int A_forcedPlace, .int A_endPlace, .int A_wordsToFailure, .int A_opened])), (qA_ring, .inl (cA_ring, 65536, .inl A_ring)), (qA_buffer, .inl (cA_buffer, 200, .inl A_buffer)), (qO, .inl (cO, 1, .inr (.inl O_v)))] s.heap.size = A at hD hXW0 ⊢
  have hA : ∀ q : Nat, s.heap.size ≤ q → A q := fun q h => by rw [← hAe]; exact Or.inr h
  have hS : va_S A s.heap s.heap [] := va_S.rf
  have hP : va_P (dC, dI) vwCl [(qA, .inr (0, [.ref qA_ring, .ref qA_buffer, .int A_firstPlace, .int A_forcedPlace, .int A_endPlace, .int A_wordsToFailure, .int A_opened])), (qA_ring, .inl (cA_ring, 65536, .inl A_ring)), (qA_buffer, .inl (cA_buffer, 200, .inl A_buffer)), (qO, .inl (cO, 1, .inr (.inl O_v)))] s.heap := hP
  generalize hQQ : MQ below (va_Qi post (at_AO dC dI A qA qA_ring qA_buffer qO cA_ring cA_buffer cO) A) args s 3 18 A = QQ
  have hl := lv_entry ([.ref qA, .int x1, .int x2, .int x3, .int x4, .ref qO]) (n := 7) (Nat.le_of_ble_eq_true rfl)
  rw [show entryFrame m args 7 = entryFrame m ([.ref qA, .int x1, .int x2, .int x3, .int x4, .ref qO] : List Value).toArray 7 by rw [hav], lg_entry_eq]
  generalize (lg_sl ([.ref qA, .int x1, .int x2, .int x3, .int x4, .ref qO]) ++ List.replicate (7 - (lg_sl ([.ref qA, .int x1, .int x2, .int x3, .int x4, .ref qO])).length) Slot.unset).toArray = ls at hl ⊢
  have hl : lv_has ls 7 [(0, .ref qA), (1, .int x1), (2, .int x2), (3, .int x3), (4, .int x4), (5, .ref qO)] := hl
  unfold wp_L_append at hw
  refine lv_aload hx hb dL_append_0 (lv_at hl 5 rfl) ?_
  refine lv_iconst (v := (0 : Int32)) hx hb dL_append_2 (by decide) ?_
  refine lv_aload_n hx hb dL_append_3 rfl (lv_at hl 0 rfl) ?_
  refine lv_iload_n hx hb dL_append_4 rfl (lv_at hl 1 rfl) ?_
  refine lv_iload_n hx hb dL_append_5 rfl (lv_at hl 2 rfl) ?_
  refine lv_iload_n hx hb dL_append_6 rfl (lv_at hl 3 rfl) ?_
  refine lv_iload hx hb dL_append_7 (lv_at hl 4 rfl) ?_
  have hPc := hP.sub (ws' := [(qA, .inr (0, [.ref qA_ring, .ref qA_buffer, .int A_firstPlace, .int A_forcedPlace, .int A_endPlace, .int A_wordsToFailure, .int A_opened])), (qA_ring, .inl (cA_ring, 65536, .inl A_ring)), (qA_buffer, .inl (cA_buffer, 200, .inl A_buffer))]) [0, 1, 2] rfl
  have hKc := hK.sub (tys' := [(cA_ring, .int), (cA_buffer, .int)]) [0, 1] rfl
  have hDc := hD.sub (ws' := [(qA, .inr (0, [.ref qA_ring, .ref qA_buffer, .int A_firstPlace, .int A_forcedPlace, .int A_endPlace, .int A_wordsToFailure, .int A_opened])), (qA_ring, .inl (cA_ring, 65536, .inl A_ring)), (qA_buffer, .inl (cA_buffer, 200, .inl A_buffer))]) [0, 1, 2] (by decide) rfl
  have hFc := va_free (wc := [(qA, .inr (0, [.ref qA_ring, .ref qA_buffer, .int A_firstPlace, .int A_forcedPlace, .int A_endPlace, .int A_wordsToFailure, .int A_opened])), (qA_ring, .inl (cA_ring, 65536, .inl A_ring)), (qA_buffer, .inl (cA_buffer, 200, .inl A_buffer))]) hD hS hA [0, 1, 2] rfl
  refine vx_calli (vx_runV (As := [.int x1, .int x2, .int x3, .int x4]) (rest := [.int (0 : Int32), .ref qO]) ⟨hx, hb, hml, hown, hbg⟩ (met_X0_append l hl9 dC dI qA qA_ring qA_buffer cA_ring cA_buffer s.heap.size A_ring A_buffer A_firstPlace A_forcedPlace A_endPlace A_wordsToFailure A_opened x1 x2 x3 x4 _ _ hw) (cwV 4 hbg g_RL_20 rfl rfl rfl (by decide +kernel) ⟨Nat.le_of_ble_eq_true rfl, Nat.le_of_ble_eq_true rfl⟩) ⟨pcX_A_b _ _ _ _ _ _ _ _ _ _ _ _ _ _ _ _, va_recv hK hPc (ci := 0) (q0 := 0) rfl rfl, fun U hU hW => ⟨rfl, by rw [hU], by rw [hU]; exact hPc, va_K.moved hW.alike hKc, hDc.weaken (fun _ _ _ _ => trivial), XW.go hXW0 hS hFc hU hW⟩⟩ rfl rfl hl.1 rfl (lv_room (Nat.le_of_ble_eq_true rfl)) dL_append_9 ⟨Nat.le_of_ble_eq_true rfl, Nat.le_of_ble_eq_true rfl⟩) hS (fun q _ h => hFc q h) hFc (fun q _ h => hFc q h) (fun E9 ce9 q9 u9 t9 H_1 locs ht hvm hpx hBX hz1 hk1 hS hce hcv hcl => ?_) (fun r_1 u_1 t_1 H_1 locs ht hvm hw hB hz1 hk1 hS => ?_)
  · obtain ⟨E8, A_ring_x1, A_buffer_x1, A_firstPlace_x1, A_forcedPlace_x1, A_endPlace_x1, A_wordsToFailure_x1, A_opened_x1⟩ := u9
    obtain ⟨rfl, hP1, hK1, hD1⟩ := hBX
    rw [ht] at hP1
    obtain ⟨hP, hD⟩ := va_join (wr := [(qO, .inl (cO, 1, .inr (.inl O_v)))]) (w1 := [(qA, .inr (0, [.ref qA_ring, .ref qA_buffer, .int A_firstPlace_x1, .int A_forcedPlace_x1, .int A_endPlace_x1, .int A_wordsToFailure_x1, .int A_opened_x1])), (qA_ring, .inl (cA_ring, 65536, .inl A_ring_x1)), (qA_buffer, .inl (cA_buffer, 200, .inl A_buffer_x1))]) hP hD [0, 1, 2] [3] rfl rfl (by decide) (by decide) hk1 hFc hP1 hD1
    have hP : va_P (dC, dI) vwCl [(qA, .inr (0, [.ref qA_ring, .ref qA_buffer, .int A_firstPlace_x1, .int A_forcedPlace_x1, .int A_endPlace_x1, .int A_wordsToFailure_x1, .int A_opened_x1])), (qA_ring, .inl (cA_ring, 65536, .inl A_ring_x1)), (qA_buffer, .inl (cA_buffer, 200, .inl A_buffer_x1)), (qO, .inl (cO, 1, .inr (.inl O_v)))] H_1 := hP.sub [1, 2, 3, 0] rfl
    have hD : va_D A [(qA, .inr (0, [.ref qA_ring, .ref qA_buffer, .int A_firstPlace_x1, .int A_forcedPlace_x1, .int A_endPlace_x1, .int A_wordsToFailure_x1, .int A_opened_x1])), (qA_ring, .inl (cA_ring, 65536, .inl A_ring_x1)), (qA_buffer, .inl (cA_buffer, 200, .inl A_buffer_x1)), (qO, .inl (cO, 1, .inr (.inl O_v)))] := hD.sub [1, 2, 3, 0] (by decide) rfl
    try dsimp only at hpx
    rcases hpx with ⟨rfl, hw⟩ | ⟨rfl, hw⟩
    · refine vx_widen (k := 3) (n := 18) (Nat.le_of_ble_eq_true rfl) (Nat.le_of_ble_eq_true rfl) ?_
      refine vx_catch (own := RL) (name := "java/lang/IllegalStateException") (E := "java/lang/IllegalStateException") hown [] ⟨0, 14, 17, 13⟩ [⟨0, 14, 21, 24⟩] (by rw [hTab]; rfl) (fun z hz => nomatch hz) (by decide) (by decide) (hbg _ kw_186) (va_Nw.use rfl (hXW0.1 "java/lang/IllegalStateException" (by decide))) hce hcv hcl ?_
      refine lv_astore (lv' := [(6, .ref q9), (0, .ref qA), (1, .int x1), (2, .int x2), (3, .int x3), (4, .int x4), (5, .ref qO)]) hx hb dL_append_17 hl (by decide) rfl (fun ls hl => ?_)
      refine lv_iconst (v := (1 : Int32)) hx hb dL_append_19 (by decide) ?_
      subst hQQ
      refine W.widen (k := 3) (n := 18) (Nat.le_of_ble_eq_true rfl) (Nat.le_of_ble_eq_true rfl) ?_
      exact W.iret (v := (1 : Int32)) hx hb hr (fun t ht hW => ⟨⟨(1 : Int32), (A_ring_x1, A_buffer_x1, A_firstPlace_x1, A_forcedPlace_x1, A_endPlace_x1, A_wordsToFailure_x1, A_opened_x1, O_v), rfl, hw, by rw [ht]; exact hP, va_K.moved hW.alike hK, hD⟩, hS.F ht⟩) hS.2.2 dL_append_20
    · refine vx_widen (k := 3) (n := 18) (Nat.le_of_ble_eq_true rfl) (Nat.le_of_ble_eq_true rfl) ?_
      refine vx_catch (own := RL) (name := "java/lang/IllegalArgumentException") (E := "java/lang/IllegalArgumentException") hown [⟨0, 14, 17, 13⟩] ⟨0, 14, 21, 24⟩ [] (by rw [hTab]; rfl) (by
        intro z hz
        rcases List.mem_cons.mp hz with rfl | hz
        · exact Or.inr ⟨by decide, "java/lang/IllegalStateException", hbg _ kw_186, hXW0.2.2.2.1 ("java/lang/IllegalArgumentException", "java/lang/IllegalStateException") (by decide)⟩
        cases hz) (by decide) (by decide) (hbg _ kw_196) (va_Nw.use rfl (hXW0.1 "java/lang/IllegalArgumentException" (by decide))) hce hcv hcl ?_
      refine lv_astore (lv' := [(6, .ref q9), (0, .ref qA), (1, .int x1), (2, .int x2), (3, .int x3), (4, .int x4), (5, .ref qO)]) hx hb dL_append_21 hl (by decide) rfl (fun ls hl => ?_)
      refine lv_iconst (v := (2 : Int32)) hx hb dL_append_23 (by decide) ?_
      subst hQQ
      refine W.widen (k := 3) (n := 18) (Nat.le_of_ble_eq_true rfl) (Nat.le_of_ble_eq_true rfl) ?_
      exact W.iret (v := (2 : Int32)) hx hb hr (fun t ht hW => ⟨⟨(2 : Int32), (A_ring_x1, A_buffer_x1, A_firstPlace_x1, A_forcedPlace_x1, A_endPlace_x1, A_wordsToFailure_x1, A_opened_x1, O_v), rfl, hw, by rw [ht]; exact hP, va_K.moved hW.alike hK, hD⟩, hS.F ht⟩) hS.2.2 dL_append_24
  · obtain ⟨A_ring_1, A_buffer_1, A_firstPlace_1, A_forcedPlace_1, A_endPlace_1, A_wordsToFailure_1, A_opened_1⟩ := u_1
    obtain ⟨hP1, hK1, hD1⟩ := hB
    rw [ht] at hP1
    try dsimp only at hw
    obtain ⟨hP, hD⟩ := va_join (wr := [(qO, .inl (cO, 1, .inr (.inl O_v)))]) (w1 := [(qA, .inr (0, [.ref qA_ring, .ref qA_buffer, .int A_firstPlace_1, .int A_forcedPlace_1, .int A_endPlace_1, .int A_wordsToFailure_1, .int A_opened_1])), (qA_ring, .inl (cA_ring, 65536, .inl A_ring_1)), (qA_buffer, .inl (cA_buffer, 200, .inl A_buffer_1))]) hP hD [0, 1, 2] [3] rfl rfl (by decide) (by decide) hk1 hFc hP1 hD1
    have hP : va_P (dC, dI) vwCl [(qA, .inr (0, [.ref qA_ring, .ref qA_buffer, .int A_firstPlace_1, .int A_forcedPlace_1, .int A_endPlace_1, .int A_wordsToFailure_1, .int A_opened_1])), (qA_ring, .inl (cA_ring, 65536, .inl A_ring_1)), (qA_buffer, .inl (cA_buffer, 200, .inl A_buffer_1)), (qO, .inl (cO, 1, .inr (.inl O_v)))] H_1 := hP.sub [1, 2, 3, 0] rfl
    have hD : va_D A [(qA, .inr (0, [.ref qA_ring, .ref qA_buffer, .int A_firstPlace_1, .int A_forcedPlace_1, .int A_endPlace_1, .int A_wordsToFailure_1, .int A_opened_1])), (qA_ring, .inl (cA_ring, 65536, .inl A_ring_1)), (qA_buffer, .inl (cA_buffer, 200, .inl A_buffer_1)), (qO, .inl (cO, 1, .inr (.inl O_v)))] := hD.sub [1, 2, 3, 0] (by decide) rfl
    refine W.widen (k := 3) (n := 18) (Nat.le_of_ble_eq_true rfl) (Nat.le_of_ble_eq_true rfl) ?_
    refine lv_i2l (v := r_1.toInt64) hx hb dL_append_12 rfl ?_
    obtain ⟨h_2, hw⟩ := hw
    refine va_last hx hb hK hP hD hS 3 2 rfl rfl h_2 dL_append_13 (fun H_3 locs hP hD hS => ?_)
    have hP : va_P (dC, dI) vwCl [(qA, .inr (0, [.ref qA_ring, .ref qA_buffer, .int A_firstPlace_1, .int A_forcedPlace_1, .int A_endPlace_1, .int A_wordsToFailure_1, .int A_opened_1])), (qA_ring, .inl (cA_ring, 65536, .inl A_ring_1)), (qA_buffer, .inl (cA_buffer, 200, .inl A_buffer_1)), (qO, .inl (cO, 1, .inr (.inl (vp_updL O_v (0 : Int32).toNatClampNeg r_1.toInt64))))] H_3 := hP
    have hD : va_D A [(qA, .inr (0, [.ref qA_ring, .ref qA_buffer, .int A_firstPlace_1, .int A_forcedPlace_1, .int A_endPlace_1, .int A_wordsToFailure_1, .int A_opened_1])), (qA_ring, .inl (cA_ring, 65536, .inl A_ring_1)), (qA_buffer, .inl (cA_buffer, 200, .inl A_buffer_1)), (qO, .inl (cO, 1, .inr (.inl (vp_updL O_v (0 : Int32).toNatClampNeg r_1.toInt64))))] := hD
    refine lv_goto (tgt := 25) hx hb dL_append_14 (by decide) ?_
    refine lv_iconst (v := (0 : Int32)) hx hb dL_append_25 (by decide) ?_
    subst hQQ
    refine W.widen (k := 3) (n := 18) (Nat.le_of_ble_eq_true rfl) (Nat.le_of_ble_eq_true rfl) ?_
    exact W.iret (v := (0 : Int32)) hx hb hr (fun t ht hW => ⟨⟨(0 : Int32), (A_ring_1, A_buffer_1, A_firstPlace_1, A_forcedPlace_1, A_endPlace_1, A_wordsToFailure_1, A_opened_1, vp_updL O_v (0 : Int32).toNatClampNeg r_1.toInt64), rfl, hw, by rw [ht]; exact hP, va_K.moved hW.alike hK, hD⟩, hS.F ht⟩) hS.2.2 dL_append_26
def wp_L_force (post : Int32 → St_AO → Prop) (x1 : Int32) (A_ring : Nat → Int32) (A_buffer : Nat → Int32) (A_firstPlace : Int32) (A_forcedPlace : Int32) (A_endPlace : Int32) (A_wordsToFailure : Int32) (A_opened : Int32) (O_v : Nat → Int64) : Prop :=
  wp_X0_force (fun r_1 u_1 => match u_1 with | (A_ring_1, A_buffer_1, A_firstPlace_1, A_forcedPlace_1, A_endPlace_1, A_wordsToFailure_1, A_opened_1) => vp_in (0 : Int32) 1 ∧ (post (0 : Int32) (A_ring_1, A_buffer_1, A_firstPlace_1, A_forcedPlace_1, A_endPlace_1, A_wordsToFailure_1, A_opened_1, vp_updL O_v (0 : Int32).toNatClampNeg r_1.toInt64))) (fun E9 u9 => match u9 with | (A_ring_x1, A_buffer_x1, A_firstPlace_x1, A_forcedPlace_x1, A_endPlace_x1, A_wordsToFailure_x1, A_opened_x1) => (E9 = "java/lang/IllegalStateException" ∧ post (1 : Int32) (A_ring_x1, A_buffer_x1, A_firstPlace_x1, A_forcedPlace_x1, A_endPlace_x1, A_wordsToFailure_x1, A_opened_x1, O_v)) ∨ (E9 = "java/util/NoSuchElementException" ∧ post (2 : Int32) (A_ring_x1, A_buffer_x1, A_firstPlace_x1, A_forcedPlace_x1, A_endPlace_x1, A_wordsToFailure_x1, A_opened_x1, O_v))) x1 A_ring A_buffer A_firstPlace A_forcedPlace A_endPlace A_wordsToFailure A_opened
set_option maxHeartbeats 4000000 in
set_option maxRecDepth 100000 in
theorem met_L_force (l : Launch) (hl9 : l.stackTraces = false) (dC : Nat → ClassId) (dI : Nat → Nat → Nat) (qA qA_ring qA_buffer qO : Nat) (cA_ring cA_buffer cO : ClassId) (sz : Nat) (A_ring : Nat → Int32) (A_buffer : Nat → Int32) (A_firstPlace : Int32) (A_forcedPlace : Int32) (A_endPlace : Int32) (A_wordsToFailure : Int32) (A_opened : Int32) (O_v : Nat → Int64) (x1 : Int32) (post : Int32 → St_AO → Prop) (hw : wp_L_force post x1 A_ring A_buffer A_firstPlace A_forcedPlace A_endPlace A_wordsToFailure A_opened O_v) :
    Met l yL_force wsL_force ({ frames := 8, cells := 2, slots := 12, locals := 138 } : Room) (pcX_AO dC dI qA qA_ring qA_buffer qO cA_ring cA_buffer cO sz A_ring A_buffer A_firstPlace A_forcedPlace A_endPlace A_wordsToFailure A_opened O_v [.ref qA, .int x1, .ref qO]) (va_Qi post (at_AO dC dI (va_A [(qA, .inr (0, [.ref qA_ring, .ref qA_buffer, .int A_firstPlace, .int A_forcedPlace, .int A_endPlace, .int A_wordsToFailure, .int A_opened])), (qA_ring, .inl (cA_ring, 65536, .inl A_ring)), (qA_buffer, .inl (cA_buffer, 200, .inl A_buffer)), (qO, .inl (cO, 1, .inr (.inl O_v)))] sz) qA qA_ring qA_buffer qO cA_ring cA_buffer cO) (va_A [(qA, .inr (0, [.ref qA_ring, .ref qA_buffer, .int A_firstPlace, .int A_forcedPlace, .int A_endPlace, .int A_wordsToFailure, .int A_opened])), (qA_ring, .inl (cA_ring, 65536, .inl A_ring)), (qA_buffer, .inl (cA_buffer, 200, .inl A_buffer)), (qO, .inl (cO, 1, .inr (.inl O_v)))] sz)) 2 12 (va_A [(qA, .inr (0, [.ref qA_ring, .ref qA_buffer, .int A_firstPlace, .int A_forcedPlace, .int A_endPlace, .int A_wordsToFailure, .int A_opened])), (qA_ring, .inl (cA_ring, 65536, .inl A_ring)), (qA_buffer, .inl (cA_buffer, 200, .inl A_buffer)), (qO, .inl (cO, 1, .inr (.inl O_v)))] sz) := by
  refine va_MetW (cc := cL_force) (maxL := 4) (ret := (some .int)) (by decide) rfl ?_
  intro p e s m args below meth c s₁ B hml hv
  obtain ⟨hav, hsz, hP, hK, hD0, hXW0⟩ := hv
  have hx := B.exec
  have hb := B.bytes
  have hr := B.returns
  have hts := atoms_spec (ws := wsL_force) B.pre
  have hbg : ∀ w ∈ bigW, w.before args s = true := fun w h => hts w (List.mem_cons_of_mem _ h)
  have hown : s.vm.findClass RL = some m.cls := findClass_of_methodNamed B.named
  have hlocks := B.notSynchronized
  have hTab : c.exceptionTable.toList = tableOf [(0, 9, 12, 13), (0, 9, 15, 30)] := vx_table (x := yL_force) B (hts _ List.mem_cons_self)
  subst hsz
  have hD := hD0.self (sz := s.heap.size)
  generalize hAe : va_A [(qA, .inr (0, [.ref qA_ring, .ref qA_buffer, .int A_firstPlace, .int A_forcedPlace, .int A_endPlace, .int A_wordsToFailure, .int A_opened])), (qA_ring, .inl (cA_ring, 65536, .inl A_ring)), (qA_buffer, .inl (cA_buffer, 200, .inl A_buffer)), (qO, .inl (cO, 1, .inr (.inl O_v)))] s.heap.size = A at hD hXW0 ⊢
  have hA : ∀ q : Nat, s.heap.size ≤ q → A q := fun q h => by rw [← hAe]; exact Or.inr h
  have hS : va_S A s.heap s.heap [] := va_S.rf
  have hP : va_P (dC, dI) vwCl [(qA, .inr (0, [.ref qA_ring, .ref qA_buffer, .int A_firstPlace, .int A_forcedPlace, .int A_endPlace, .int A_wordsToFailure, .int A_opened])), (qA_ring, .inl (cA_ring, 65536, .inl A_ring)), (qA_buffer, .inl (cA_buffer, 200, .inl A_buffer)), (qO, .inl (cO, 1, .inr (.inl O_v)))] s.heap := hP
  generalize hQQ : MQ below (va_Qi post (at_AO dC dI A qA qA_ring qA_buffer qO cA_ring cA_buffer cO) A) args s 2 12 A = QQ
  have hl := lv_entry ([.ref qA, .int x1, .ref qO]) (n := 4) (Nat.le_of_ble_eq_true rfl)
  rw [show entryFrame m args 4 = entryFrame m ([.ref qA, .int x1, .ref qO] : List Value).toArray 4 by rw [hav], lg_entry_eq]
  generalize (lg_sl ([.ref qA, .int x1, .ref qO]) ++ List.replicate (4 - (lg_sl ([.ref qA, .int x1, .ref qO])).length) Slot.unset).toArray = ls at hl ⊢
  have hl : lv_has ls 4 [(0, .ref qA), (1, .int x1), (2, .ref qO)] := hl
  unfold wp_L_force at hw
  refine lv_aload_n hx hb dL_force_0 rfl (lv_at hl 2 rfl) ?_
  refine lv_iconst (v := (0 : Int32)) hx hb dL_force_1 (by decide) ?_
  refine lv_aload_n hx hb dL_force_2 rfl (lv_at hl 0 rfl) ?_
  refine lv_iload_n hx hb dL_force_3 rfl (lv_at hl 1 rfl) ?_
  have hPc := hP.sub (ws' := [(qA, .inr (0, [.ref qA_ring, .ref qA_buffer, .int A_firstPlace, .int A_forcedPlace, .int A_endPlace, .int A_wordsToFailure, .int A_opened])), (qA_ring, .inl (cA_ring, 65536, .inl A_ring)), (qA_buffer, .inl (cA_buffer, 200, .inl A_buffer))]) [0, 1, 2] rfl
  have hKc := hK.sub (tys' := [(cA_ring, .int), (cA_buffer, .int)]) [0, 1] rfl
  have hDc := hD.sub (ws' := [(qA, .inr (0, [.ref qA_ring, .ref qA_buffer, .int A_firstPlace, .int A_forcedPlace, .int A_endPlace, .int A_wordsToFailure, .int A_opened])), (qA_ring, .inl (cA_ring, 65536, .inl A_ring)), (qA_buffer, .inl (cA_buffer, 200, .inl A_buffer))]) [0, 1, 2] (by decide) rfl
  have hFc := va_free (wc := [(qA, .inr (0, [.ref qA_ring, .ref qA_buffer, .int A_firstPlace, .int A_forcedPlace, .int A_endPlace, .int A_wordsToFailure, .int A_opened])), (qA_ring, .inl (cA_ring, 65536, .inl A_ring)), (qA_buffer, .inl (cA_buffer, 200, .inl A_buffer))]) hD hS hA [0, 1, 2] rfl
  refine vx_calli (vx_runV (As := [.int x1]) (rest := [.int (0 : Int32), .ref qO]) ⟨hx, hb, hml, hown, hbg⟩ (met_X0_force l hl9 dC dI qA qA_ring qA_buffer cA_ring cA_buffer s.heap.size A_ring A_buffer A_firstPlace A_forcedPlace A_endPlace A_wordsToFailure A_opened x1 _ _ hw) (cwV 1 hbg g_RL_26 rfl rfl rfl (by decide +kernel) ⟨Nat.le_of_ble_eq_true rfl, Nat.le_of_ble_eq_true rfl⟩) ⟨pcX_A_b _ _ _ _ _ _ _ _ _ _ _ _ _ _ _ _, va_recv hK hPc (ci := 0) (q0 := 0) rfl rfl, fun U hU hW => ⟨rfl, by rw [hU], by rw [hU]; exact hPc, va_K.moved hW.alike hKc, hDc.weaken (fun _ _ _ _ => trivial), XW.go hXW0 hS hFc hU hW⟩⟩ rfl rfl hl.1 rfl (lv_room (Nat.le_of_ble_eq_true rfl)) dL_force_4 ⟨Nat.le_of_ble_eq_true rfl, Nat.le_of_ble_eq_true rfl⟩) hS (fun q _ h => hFc q h) hFc (fun q _ h => hFc q h) (fun E9 ce9 q9 u9 t9 H_1 locs ht hvm hpx hBX hz1 hk1 hS hce hcv hcl => ?_) (fun r_1 u_1 t_1 H_1 locs ht hvm hw hB hz1 hk1 hS => ?_)
  · obtain ⟨E8, A_ring_x1, A_buffer_x1, A_firstPlace_x1, A_forcedPlace_x1, A_endPlace_x1, A_wordsToFailure_x1, A_opened_x1⟩ := u9
    obtain ⟨rfl, hP1, hK1, hD1⟩ := hBX
    rw [ht] at hP1
    obtain ⟨hP, hD⟩ := va_join (wr := [(qO, .inl (cO, 1, .inr (.inl O_v)))]) (w1 := [(qA, .inr (0, [.ref qA_ring, .ref qA_buffer, .int A_firstPlace_x1, .int A_forcedPlace_x1, .int A_endPlace_x1, .int A_wordsToFailure_x1, .int A_opened_x1])), (qA_ring, .inl (cA_ring, 65536, .inl A_ring_x1)), (qA_buffer, .inl (cA_buffer, 200, .inl A_buffer_x1))]) hP hD [0, 1, 2] [3] rfl rfl (by decide) (by decide) hk1 hFc hP1 hD1
    have hP : va_P (dC, dI) vwCl [(qA, .inr (0, [.ref qA_ring, .ref qA_buffer, .int A_firstPlace_x1, .int A_forcedPlace_x1, .int A_endPlace_x1, .int A_wordsToFailure_x1, .int A_opened_x1])), (qA_ring, .inl (cA_ring, 65536, .inl A_ring_x1)), (qA_buffer, .inl (cA_buffer, 200, .inl A_buffer_x1)), (qO, .inl (cO, 1, .inr (.inl O_v)))] H_1 := hP.sub [1, 2, 3, 0] rfl
    have hD : va_D A [(qA, .inr (0, [.ref qA_ring, .ref qA_buffer, .int A_firstPlace_x1, .int A_forcedPlace_x1, .int A_endPlace_x1, .int A_wordsToFailure_x1, .int A_opened_x1])), (qA_ring, .inl (cA_ring, 65536, .inl A_ring_x1)), (qA_buffer, .inl (cA_buffer, 200, .inl A_buffer_x1)), (qO, .inl (cO, 1, .inr (.inl O_v)))] := hD.sub [1, 2, 3, 0] (by decide) rfl
    try dsimp only at hpx
    rcases hpx with ⟨rfl, hw⟩ | ⟨rfl, hw⟩
    · refine vx_widen (k := 2) (n := 12) (Nat.le_of_ble_eq_true rfl) (Nat.le_of_ble_eq_true rfl) ?_
      refine vx_catch (own := RL) (name := "java/lang/IllegalStateException") (E := "java/lang/IllegalStateException") hown [] ⟨0, 9, 12, 13⟩ [⟨0, 9, 15, 30⟩] (by rw [hTab]; rfl) (fun z hz => nomatch hz) (by decide) (by decide) (hbg _ kw_186) (va_Nw.use rfl (hXW0.1 "java/lang/IllegalStateException" (by decide))) hce hcv hcl ?_
      refine lv_astore_n (lv' := [(3, .ref q9), (0, .ref qA), (1, .int x1), (2, .ref qO)]) hx hb dL_force_12 rfl hl (by decide) rfl (fun ls hl => ?_)
      refine lv_iconst (v := (1 : Int32)) hx hb dL_force_13 (by decide) ?_
      subst hQQ
      refine W.widen (k := 2) (n := 12) (Nat.le_of_ble_eq_true rfl) (Nat.le_of_ble_eq_true rfl) ?_
      exact W.iret (v := (1 : Int32)) hx hb hr (fun t ht hW => ⟨⟨(1 : Int32), (A_ring_x1, A_buffer_x1, A_firstPlace_x1, A_forcedPlace_x1, A_endPlace_x1, A_wordsToFailure_x1, A_opened_x1, O_v), rfl, hw, by rw [ht]; exact hP, va_K.moved hW.alike hK, hD⟩, hS.F ht⟩) hS.2.2 dL_force_14
    · refine vx_widen (k := 2) (n := 12) (Nat.le_of_ble_eq_true rfl) (Nat.le_of_ble_eq_true rfl) ?_
      refine vx_catch (own := RL) (name := "java/util/NoSuchElementException") (E := "java/util/NoSuchElementException") hown [⟨0, 9, 12, 13⟩] ⟨0, 9, 15, 30⟩ [] (by rw [hTab]; rfl) (by
        intro z hz
        rcases List.mem_cons.mp hz with rfl | hz
        · exact Or.inr ⟨by decide, "java/lang/IllegalStateException", hbg _ kw_186, hXW0.2.2.2.1 ("java/util/NoSuchElementException", "java/lang/IllegalStateException") (by decide)⟩
        cases hz) (by decide) (by decide) (hbg _ kw_201) (va_Nw.use rfl (hXW0.1 "java/util/NoSuchElementException" (by decide))) hce hcv hcl ?_
      refine lv_astore_n (lv' := [(3, .ref q9), (0, .ref qA), (1, .int x1), (2, .ref qO)]) hx hb dL_force_15 rfl hl (by decide) rfl (fun ls hl => ?_)
      refine lv_iconst (v := (2 : Int32)) hx hb dL_force_16 (by decide) ?_
      subst hQQ
      refine W.widen (k := 2) (n := 12) (Nat.le_of_ble_eq_true rfl) (Nat.le_of_ble_eq_true rfl) ?_
      exact W.iret (v := (2 : Int32)) hx hb hr (fun t ht hW => ⟨⟨(2 : Int32), (A_ring_x1, A_buffer_x1, A_firstPlace_x1, A_forcedPlace_x1, A_endPlace_x1, A_wordsToFailure_x1, A_opened_x1, O_v), rfl, hw, by rw [ht]; exact hP, va_K.moved hW.alike hK, hD⟩, hS.F ht⟩) hS.2.2 dL_force_17
  · obtain ⟨A_ring_1, A_buffer_1, A_firstPlace_1, A_forcedPlace_1, A_endPlace_1, A_wordsToFailure_1, A_opened_1⟩ := u_1
    obtain ⟨hP1, hK1, hD1⟩ := hB
    rw [ht] at hP1
    try dsimp only at hw
    obtain ⟨hP, hD⟩ := va_join (wr := [(qO, .inl (cO, 1, .inr (.inl O_v)))]) (w1 := [(qA, .inr (0, [.ref qA_ring, .ref qA_buffer, .int A_firstPlace_1, .int A_forcedPlace_1, .int A_endPlace_1, .int A_wordsToFailure_1, .int A_opened_1])), (qA_ring, .inl (cA_ring, 65536, .inl A_ring_1)), (qA_buffer, .inl (cA_buffer, 200, .inl A_buffer_1))]) hP hD [0, 1, 2] [3] rfl rfl (by decide) (by decide) hk1 hFc hP1 hD1
    have hP : va_P (dC, dI) vwCl [(qA, .inr (0, [.ref qA_ring, .ref qA_buffer, .int A_firstPlace_1, .int A_forcedPlace_1, .int A_endPlace_1, .int A_wordsToFailure_1, .int A_opened_1])), (qA_ring, .inl (cA_ring, 65536, .inl A_ring_1)), (qA_buffer, .inl (cA_buffer, 200, .inl A_buffer_1)), (qO, .inl (cO, 1, .inr (.inl O_v)))] H_1 := hP.sub [1, 2, 3, 0] rfl
    have hD : va_D A [(qA, .inr (0, [.ref qA_ring, .ref qA_buffer, .int A_firstPlace_1, .int A_forcedPlace_1, .int A_endPlace_1, .int A_wordsToFailure_1, .int A_opened_1])), (qA_ring, .inl (cA_ring, 65536, .inl A_ring_1)), (qA_buffer, .inl (cA_buffer, 200, .inl A_buffer_1)), (qO, .inl (cO, 1, .inr (.inl O_v)))] := hD.sub [1, 2, 3, 0] (by decide) rfl
    refine W.widen (k := 2) (n := 12) (Nat.le_of_ble_eq_true rfl) (Nat.le_of_ble_eq_true rfl) ?_
    refine lv_i2l (v := r_1.toInt64) hx hb dL_force_7 rfl ?_
    obtain ⟨h_2, hw⟩ := hw
    refine va_last hx hb hK hP hD hS 3 2 rfl rfl h_2 dL_force_8 (fun H_3 locs hP hD hS => ?_)
    have hP : va_P (dC, dI) vwCl [(qA, .inr (0, [.ref qA_ring, .ref qA_buffer, .int A_firstPlace_1, .int A_forcedPlace_1, .int A_endPlace_1, .int A_wordsToFailure_1, .int A_opened_1])), (qA_ring, .inl (cA_ring, 65536, .inl A_ring_1)), (qA_buffer, .inl (cA_buffer, 200, .inl A_buffer_1)), (qO, .inl (cO, 1, .inr (.inl (vp_updL O_v (0 : Int32).toNatClampNeg r_1.toInt64))))] H_3 := hP
    have hD : va_D A [(qA, .inr (0, [.ref qA_ring, .ref qA_buffer, .int A_firstPlace_1, .int A_forcedPlace_1, .int A_endPlace_1, .int A_wordsToFailure_1, .int A_opened_1])), (qA_ring, .inl (cA_ring, 65536, .inl A_ring_1)), (qA_buffer, .inl (cA_buffer, 200, .inl A_buffer_1)), (qO, .inl (cO, 1, .inr (.inl (vp_updL O_v (0 : Int32).toNatClampNeg r_1.toInt64))))] := hD
    refine lv_goto (tgt := 18) hx hb dL_force_9 (by decide) ?_
    refine lv_iconst (v := (0 : Int32)) hx hb dL_force_18 (by decide) ?_
    subst hQQ
    refine W.widen (k := 2) (n := 12) (Nat.le_of_ble_eq_true rfl) (Nat.le_of_ble_eq_true rfl) ?_
    exact W.iret (v := (0 : Int32)) hx hb hr (fun t ht hW => ⟨⟨(0 : Int32), (A_ring_1, A_buffer_1, A_firstPlace_1, A_forcedPlace_1, A_endPlace_1, A_wordsToFailure_1, A_opened_1, vp_updL O_v (0 : Int32).toNatClampNeg r_1.toInt64), rfl, hw, by rw [ht]; exact hP, va_K.moved hW.alike hK, hD⟩, hS.F ht⟩) hS.2.2 dL_force_19
def wp_L_forceAll (post : Int32 → St_AO → Prop) (A_ring : Nat → Int32) (A_buffer : Nat → Int32) (A_firstPlace : Int32) (A_forcedPlace : Int32) (A_endPlace : Int32) (A_wordsToFailure : Int32) (A_opened : Int32) (O_v : Nat → Int64) : Prop :=
  wp_X0_forceAll (fun r_1 u_1 => match u_1 with | (A_ring_1, A_buffer_1, A_firstPlace_1, A_forcedPlace_1, A_endPlace_1, A_wordsToFailure_1, A_opened_1) => vp_in (0 : Int32) 1 ∧ (post (0 : Int32) (A_ring_1, A_buffer_1, A_firstPlace_1, A_forcedPlace_1, A_endPlace_1, A_wordsToFailure_1, A_opened_1, vp_updL O_v (0 : Int32).toNatClampNeg r_1.toInt64))) (fun E9 u9 => match u9 with | (A_ring_x1, A_buffer_x1, A_firstPlace_x1, A_forcedPlace_x1, A_endPlace_x1, A_wordsToFailure_x1, A_opened_x1) => (E9 = "java/lang/IllegalStateException" ∧ post (1 : Int32) (A_ring_x1, A_buffer_x1, A_firstPlace_x1, A_forcedPlace_x1, A_endPlace_x1, A_wordsToFailure_x1, A_opened_x1, O_v))) A_ring A_buffer A_firstPlace A_forcedPlace A_endPlace A_wordsToFailure A_opened
set_option maxHeartbeats 4000000 in
set_option maxRecDepth 100000 in
theorem met_L_forceAll (l : Launch) (hl9 : l.stackTraces = false) (dC : Nat → ClassId) (dI : Nat → Nat → Nat) (qA qA_ring qA_buffer qO : Nat) (cA_ring cA_buffer cO : ClassId) (sz : Nat) (A_ring : Nat → Int32) (A_buffer : Nat → Int32) (A_firstPlace : Int32) (A_forcedPlace : Int32) (A_endPlace : Int32) (A_wordsToFailure : Int32) (A_opened : Int32) (O_v : Nat → Int64) (post : Int32 → St_AO → Prop) (hw : wp_L_forceAll post A_ring A_buffer A_firstPlace A_forcedPlace A_endPlace A_wordsToFailure A_opened O_v) :
    Met l yL_forceAll wsL_forceAll ({ frames := 8, cells := 1, slots := 6, locals := 136 } : Room) (pcX_AO dC dI qA qA_ring qA_buffer qO cA_ring cA_buffer cO sz A_ring A_buffer A_firstPlace A_forcedPlace A_endPlace A_wordsToFailure A_opened O_v [.ref qA, .ref qO]) (va_Qi post (at_AO dC dI (va_A [(qA, .inr (0, [.ref qA_ring, .ref qA_buffer, .int A_firstPlace, .int A_forcedPlace, .int A_endPlace, .int A_wordsToFailure, .int A_opened])), (qA_ring, .inl (cA_ring, 65536, .inl A_ring)), (qA_buffer, .inl (cA_buffer, 200, .inl A_buffer)), (qO, .inl (cO, 1, .inr (.inl O_v)))] sz) qA qA_ring qA_buffer qO cA_ring cA_buffer cO) (va_A [(qA, .inr (0, [.ref qA_ring, .ref qA_buffer, .int A_firstPlace, .int A_forcedPlace, .int A_endPlace, .int A_wordsToFailure, .int A_opened])), (qA_ring, .inl (cA_ring, 65536, .inl A_ring)), (qA_buffer, .inl (cA_buffer, 200, .inl A_buffer)), (qO, .inl (cO, 1, .inr (.inl O_v)))] sz)) 1 6 (va_A [(qA, .inr (0, [.ref qA_ring, .ref qA_buffer, .int A_firstPlace, .int A_forcedPlace, .int A_endPlace, .int A_wordsToFailure, .int A_opened])), (qA_ring, .inl (cA_ring, 65536, .inl A_ring)), (qA_buffer, .inl (cA_buffer, 200, .inl A_buffer)), (qO, .inl (cO, 1, .inr (.inl O_v)))] sz) := by
  refine va_MetW (cc := cL_forceAll) (maxL := 3) (ret := (some .int)) (by decide) rfl ?_
  intro p e s m args below meth c s₁ B hml hv
  obtain ⟨hav, hsz, hP, hK, hD0, hXW0⟩ := hv
  have hx := B.exec
  have hb := B.bytes
  have hr := B.returns
  have hts := atoms_spec (ws := wsL_forceAll) B.pre
  have hbg : ∀ w ∈ bigW, w.before args s = true := fun w h => hts w (List.mem_cons_of_mem _ h)
  have hown : s.vm.findClass RL = some m.cls := findClass_of_methodNamed B.named
  have hlocks := B.notSynchronized
  have hTab : c.exceptionTable.toList = tableOf [(0, 8, 11, 13)] := vx_table (x := yL_forceAll) B (hts _ List.mem_cons_self)
  subst hsz
  have hD := hD0.self (sz := s.heap.size)
  generalize hAe : va_A [(qA, .inr (0, [.ref qA_ring, .ref qA_buffer, .int A_firstPlace, .int A_forcedPlace, .int A_endPlace, .int A_wordsToFailure, .int A_opened])), (qA_ring, .inl (cA_ring, 65536, .inl A_ring)), (qA_buffer, .inl (cA_buffer, 200, .inl A_buffer)), (qO, .inl (cO, 1, .inr (.inl O_v)))] s.heap.size = A at hD hXW0 ⊢
  have hA : ∀ q : Nat, s.heap.size ≤ q → A q := fun q h => by rw [← hAe]; exact Or.inr h
  have hS : va_S A s.heap s.heap [] := va_S.rf
  have hP : va_P (dC, dI) vwCl [(qA, .inr (0, [.ref qA_ring, .ref qA_buffer, .int A_firstPlace, .int A_forcedPlace, .int A_endPlace, .int A_wordsToFailure, .int A_opened])), (qA_ring, .inl (cA_ring, 65536, .inl A_ring)), (qA_buffer, .inl (cA_buffer, 200, .inl A_buffer)), (qO, .inl (cO, 1, .inr (.inl O_v)))] s.heap := hP
  generalize hQQ : MQ below (va_Qi post (at_AO dC dI A qA qA_ring qA_buffer qO cA_ring cA_buffer cO) A) args s 1 6 A = QQ
  have hl := lv_entry ([.ref qA, .ref qO]) (n := 3) (Nat.le_of_ble_eq_true rfl)
  rw [show entryFrame m args 3 = entryFrame m ([.ref qA, .ref qO] : List Value).toArray 3 by rw [hav], lg_entry_eq]
  generalize (lg_sl ([.ref qA, .ref qO]) ++ List.replicate (3 - (lg_sl ([.ref qA, .ref qO])).length) Slot.unset).toArray = ls at hl ⊢
  have hl : lv_has ls 3 [(0, .ref qA), (1, .ref qO)] := hl
  unfold wp_L_forceAll at hw
  refine lv_aload_n hx hb dL_forceAll_0 rfl (lv_at hl 1 rfl) ?_
  refine lv_iconst (v := (0 : Int32)) hx hb dL_forceAll_1 (by decide) ?_
  refine lv_aload_n hx hb dL_forceAll_2 rfl (lv_at hl 0 rfl) ?_
  have hPc := hP.sub (ws' := [(qA, .inr (0, [.ref qA_ring, .ref qA_buffer, .int A_firstPlace, .int A_forcedPlace, .int A_endPlace, .int A_wordsToFailure, .int A_opened])), (qA_ring, .inl (cA_ring, 65536, .inl A_ring)), (qA_buffer, .inl (cA_buffer, 200, .inl A_buffer))]) [0, 1, 2] rfl
  have hKc := hK.sub (tys' := [(cA_ring, .int), (cA_buffer, .int)]) [0, 1] rfl
  have hDc := hD.sub (ws' := [(qA, .inr (0, [.ref qA_ring, .ref qA_buffer, .int A_firstPlace, .int A_forcedPlace, .int A_endPlace, .int A_wordsToFailure, .int A_opened])), (qA_ring, .inl (cA_ring, 65536, .inl A_ring)), (qA_buffer, .inl (cA_buffer, 200, .inl A_buffer))]) [0, 1, 2] (by decide) rfl
  have hFc := va_free (wc := [(qA, .inr (0, [.ref qA_ring, .ref qA_buffer, .int A_firstPlace, .int A_forcedPlace, .int A_endPlace, .int A_wordsToFailure, .int A_opened])), (qA_ring, .inl (cA_ring, 65536, .inl A_ring)), (qA_buffer, .inl (cA_buffer, 200, .inl A_buffer))]) hD hS hA [0, 1, 2] rfl
  refine vx_calli (vx_runV (As := []) (rest := [.int (0 : Int32), .ref qO]) ⟨hx, hb, hml, hown, hbg⟩ (met_X0_forceAll l hl9 dC dI qA qA_ring qA_buffer cA_ring cA_buffer s.heap.size A_ring A_buffer A_firstPlace A_forcedPlace A_endPlace A_wordsToFailure A_opened  _ _ hw) (cwV 0 hbg g_RL_32 rfl rfl rfl (by decide +kernel) ⟨Nat.le_of_ble_eq_true rfl, Nat.le_of_ble_eq_true rfl⟩) ⟨pcX_A_b _ _ _ _ _ _ _ _ _ _ _ _ _ _ _ _, va_recv hK hPc (ci := 0) (q0 := 0) rfl rfl, fun U hU hW => ⟨rfl, by rw [hU], by rw [hU]; exact hPc, va_K.moved hW.alike hKc, hDc.weaken (fun _ _ _ _ => trivial), XW.go hXW0 hS hFc hU hW⟩⟩ rfl rfl hl.1 rfl (lv_room (Nat.le_of_ble_eq_true rfl)) dL_forceAll_3 ⟨Nat.le_of_ble_eq_true rfl, Nat.le_of_ble_eq_true rfl⟩) hS (fun q _ h => hFc q h) hFc (fun q _ h => hFc q h) (fun E9 ce9 q9 u9 t9 H_1 locs ht hvm hpx hBX hz1 hk1 hS hce hcv hcl => ?_) (fun r_1 u_1 t_1 H_1 locs ht hvm hw hB hz1 hk1 hS => ?_)
  · obtain ⟨E8, A_ring_x1, A_buffer_x1, A_firstPlace_x1, A_forcedPlace_x1, A_endPlace_x1, A_wordsToFailure_x1, A_opened_x1⟩ := u9
    obtain ⟨rfl, hP1, hK1, hD1⟩ := hBX
    rw [ht] at hP1
    obtain ⟨hP, hD⟩ := va_join (wr := [(qO, .inl (cO, 1, .inr (.inl O_v)))]) (w1 := [(qA, .inr (0, [.ref qA_ring, .ref qA_buffer, .int A_firstPlace_x1, .int A_forcedPlace_x1, .int A_endPlace_x1, .int A_wordsToFailure_x1, .int A_opened_x1])), (qA_ring, .inl (cA_ring, 65536, .inl A_ring_x1)), (qA_buffer, .inl (cA_buffer, 200, .inl A_buffer_x1))]) hP hD [0, 1, 2] [3] rfl rfl (by decide) (by decide) hk1 hFc hP1 hD1
    have hP : va_P (dC, dI) vwCl [(qA, .inr (0, [.ref qA_ring, .ref qA_buffer, .int A_firstPlace_x1, .int A_forcedPlace_x1, .int A_endPlace_x1, .int A_wordsToFailure_x1, .int A_opened_x1])), (qA_ring, .inl (cA_ring, 65536, .inl A_ring_x1)), (qA_buffer, .inl (cA_buffer, 200, .inl A_buffer_x1)), (qO, .inl (cO, 1, .inr (.inl O_v)))] H_1 := hP.sub [1, 2, 3, 0] rfl
    have hD : va_D A [(qA, .inr (0, [.ref qA_ring, .ref qA_buffer, .int A_firstPlace_x1, .int A_forcedPlace_x1, .int A_endPlace_x1, .int A_wordsToFailure_x1, .int A_opened_x1])), (qA_ring, .inl (cA_ring, 65536, .inl A_ring_x1)), (qA_buffer, .inl (cA_buffer, 200, .inl A_buffer_x1)), (qO, .inl (cO, 1, .inr (.inl O_v)))] := hD.sub [1, 2, 3, 0] (by decide) rfl
    try dsimp only at hpx
    rcases hpx with ⟨rfl, hw⟩
    · refine vx_widen (k := 1) (n := 6) (Nat.le_of_ble_eq_true rfl) (Nat.le_of_ble_eq_true rfl) ?_
      refine vx_catch (own := RL) (name := "java/lang/IllegalStateException") (E := "java/lang/IllegalStateException") hown [] ⟨0, 8, 11, 13⟩ [] (by rw [hTab]; rfl) (fun z hz => nomatch hz) (by decide) (by decide) (hbg _ kw_186) (va_Nw.use rfl (hXW0.1 "java/lang/IllegalStateException" (by decide))) hce hcv hcl ?_
      refine lv_astore_n (lv' := [(2, .ref q9), (0, .ref qA), (1, .ref qO)]) hx hb dL_forceAll_11 rfl hl (by decide) rfl (fun ls hl => ?_)
      refine lv_iconst (v := (1 : Int32)) hx hb dL_forceAll_12 (by decide) ?_
      subst hQQ
      refine W.widen (k := 1) (n := 6) (Nat.le_of_ble_eq_true rfl) (Nat.le_of_ble_eq_true rfl) ?_
      exact W.iret (v := (1 : Int32)) hx hb hr (fun t ht hW => ⟨⟨(1 : Int32), (A_ring_x1, A_buffer_x1, A_firstPlace_x1, A_forcedPlace_x1, A_endPlace_x1, A_wordsToFailure_x1, A_opened_x1, O_v), rfl, hw, by rw [ht]; exact hP, va_K.moved hW.alike hK, hD⟩, hS.F ht⟩) hS.2.2 dL_forceAll_13
  · obtain ⟨A_ring_1, A_buffer_1, A_firstPlace_1, A_forcedPlace_1, A_endPlace_1, A_wordsToFailure_1, A_opened_1⟩ := u_1
    obtain ⟨hP1, hK1, hD1⟩ := hB
    rw [ht] at hP1
    try dsimp only at hw
    obtain ⟨hP, hD⟩ := va_join (wr := [(qO, .inl (cO, 1, .inr (.inl O_v)))]) (w1 := [(qA, .inr (0, [.ref qA_ring, .ref qA_buffer, .int A_firstPlace_1, .int A_forcedPlace_1, .int A_endPlace_1, .int A_wordsToFailure_1, .int A_opened_1])), (qA_ring, .inl (cA_ring, 65536, .inl A_ring_1)), (qA_buffer, .inl (cA_buffer, 200, .inl A_buffer_1))]) hP hD [0, 1, 2] [3] rfl rfl (by decide) (by decide) hk1 hFc hP1 hD1
    have hP : va_P (dC, dI) vwCl [(qA, .inr (0, [.ref qA_ring, .ref qA_buffer, .int A_firstPlace_1, .int A_forcedPlace_1, .int A_endPlace_1, .int A_wordsToFailure_1, .int A_opened_1])), (qA_ring, .inl (cA_ring, 65536, .inl A_ring_1)), (qA_buffer, .inl (cA_buffer, 200, .inl A_buffer_1)), (qO, .inl (cO, 1, .inr (.inl O_v)))] H_1 := hP.sub [1, 2, 3, 0] rfl
    have hD : va_D A [(qA, .inr (0, [.ref qA_ring, .ref qA_buffer, .int A_firstPlace_1, .int A_forcedPlace_1, .int A_endPlace_1, .int A_wordsToFailure_1, .int A_opened_1])), (qA_ring, .inl (cA_ring, 65536, .inl A_ring_1)), (qA_buffer, .inl (cA_buffer, 200, .inl A_buffer_1)), (qO, .inl (cO, 1, .inr (.inl O_v)))] := hD.sub [1, 2, 3, 0] (by decide) rfl
    refine W.widen (k := 1) (n := 6) (Nat.le_of_ble_eq_true rfl) (Nat.le_of_ble_eq_true rfl) ?_
    refine lv_i2l (v := r_1.toInt64) hx hb dL_forceAll_6 rfl ?_
    obtain ⟨h_2, hw⟩ := hw
    refine va_last hx hb hK hP hD hS 3 2 rfl rfl h_2 dL_forceAll_7 (fun H_3 locs hP hD hS => ?_)
    have hP : va_P (dC, dI) vwCl [(qA, .inr (0, [.ref qA_ring, .ref qA_buffer, .int A_firstPlace_1, .int A_forcedPlace_1, .int A_endPlace_1, .int A_wordsToFailure_1, .int A_opened_1])), (qA_ring, .inl (cA_ring, 65536, .inl A_ring_1)), (qA_buffer, .inl (cA_buffer, 200, .inl A_buffer_1)), (qO, .inl (cO, 1, .inr (.inl (vp_updL O_v (0 : Int32).toNatClampNeg r_1.toInt64))))] H_3 := hP
    have hD : va_D A [(qA, .inr (0, [.ref qA_ring, .ref qA_buffer, .int A_firstPlace_1, .int A_forcedPlace_1, .int A_endPlace_1, .int A_wordsToFailure_1, .int A_opened_1])), (qA_ring, .inl (cA_ring, 65536, .inl A_ring_1)), (qA_buffer, .inl (cA_buffer, 200, .inl A_buffer_1)), (qO, .inl (cO, 1, .inr (.inl (vp_updL O_v (0 : Int32).toNatClampNeg r_1.toInt64))))] := hD
    refine lv_goto (tgt := 14) hx hb dL_forceAll_8 (by decide) ?_
    refine lv_iconst (v := (0 : Int32)) hx hb dL_forceAll_14 (by decide) ?_
    subst hQQ
    refine W.widen (k := 1) (n := 6) (Nat.le_of_ble_eq_true rfl) (Nat.le_of_ble_eq_true rfl) ?_
    exact W.iret (v := (0 : Int32)) hx hb hr (fun t ht hW => ⟨⟨(0 : Int32), (A_ring_1, A_buffer_1, A_firstPlace_1, A_forcedPlace_1, A_endPlace_1, A_wordsToFailure_1, A_opened_1, vp_updL O_v (0 : Int32).toNatClampNeg r_1.toInt64), rfl, hw, by rw [ht]; exact hP, va_K.moved hW.alike hK, hD⟩, hS.F ht⟩) hS.2.2 dL_forceAll_15
def wp_L_giveBack (post : Int32 → St_AO → Prop) (x1 : Int32) (A_ring : Nat → Int32) (A_buffer : Nat → Int32) (A_firstPlace : Int32) (A_forcedPlace : Int32) (A_endPlace : Int32) (A_wordsToFailure : Int32) (A_opened : Int32) (O_v : Nat → Int64) : Prop :=
  wp_X0_giveBack (fun r_1 u_1 => match u_1 with | (A_ring_1, A_buffer_1, A_firstPlace_1, A_forcedPlace_1, A_endPlace_1, A_wordsToFailure_1, A_opened_1) => vp_in (0 : Int32) 1 ∧ (post (0 : Int32) (A_ring_1, A_buffer_1, A_firstPlace_1, A_forcedPlace_1, A_endPlace_1, A_wordsToFailure_1, A_opened_1, vp_updL O_v (0 : Int32).toNatClampNeg r_1.toInt64))) (fun E9 u9 => match u9 with | (A_ring_x1, A_buffer_x1, A_firstPlace_x1, A_forcedPlace_x1, A_endPlace_x1, A_wordsToFailure_x1, A_opened_x1) => (E9 = "java/lang/IllegalStateException" ∧ post (1 : Int32) (A_ring_x1, A_buffer_x1, A_firstPlace_x1, A_forcedPlace_x1, A_endPlace_x1, A_wordsToFailure_x1, A_opened_x1, O_v)) ∨ (E9 = "java/util/NoSuchElementException" ∧ post (2 : Int32) (A_ring_x1, A_buffer_x1, A_firstPlace_x1, A_forcedPlace_x1, A_endPlace_x1, A_wordsToFailure_x1, A_opened_x1, O_v))) x1 A_ring A_buffer A_firstPlace A_forcedPlace A_endPlace A_wordsToFailure A_opened
set_option maxHeartbeats 4000000 in
set_option maxRecDepth 100000 in
theorem met_L_giveBack (l : Launch) (hl9 : l.stackTraces = false) (dC : Nat → ClassId) (dI : Nat → Nat → Nat) (qA qA_ring qA_buffer qO : Nat) (cA_ring cA_buffer cO : ClassId) (sz : Nat) (A_ring : Nat → Int32) (A_buffer : Nat → Int32) (A_firstPlace : Int32) (A_forcedPlace : Int32) (A_endPlace : Int32) (A_wordsToFailure : Int32) (A_opened : Int32) (O_v : Nat → Int64) (x1 : Int32) (post : Int32 → St_AO → Prop) (hw : wp_L_giveBack post x1 A_ring A_buffer A_firstPlace A_forcedPlace A_endPlace A_wordsToFailure A_opened O_v) :
    Met l yL_giveBack wsL_giveBack ({ frames := 8, cells := 3, slots := 18, locals := 139 } : Room) (pcX_AO dC dI qA qA_ring qA_buffer qO cA_ring cA_buffer cO sz A_ring A_buffer A_firstPlace A_forcedPlace A_endPlace A_wordsToFailure A_opened O_v [.ref qA, .int x1, .ref qO]) (va_Qi post (at_AO dC dI (va_A [(qA, .inr (0, [.ref qA_ring, .ref qA_buffer, .int A_firstPlace, .int A_forcedPlace, .int A_endPlace, .int A_wordsToFailure, .int A_opened])), (qA_ring, .inl (cA_ring, 65536, .inl A_ring)), (qA_buffer, .inl (cA_buffer, 200, .inl A_buffer)), (qO, .inl (cO, 1, .inr (.inl O_v)))] sz) qA qA_ring qA_buffer qO cA_ring cA_buffer cO) (va_A [(qA, .inr (0, [.ref qA_ring, .ref qA_buffer, .int A_firstPlace, .int A_forcedPlace, .int A_endPlace, .int A_wordsToFailure, .int A_opened])), (qA_ring, .inl (cA_ring, 65536, .inl A_ring)), (qA_buffer, .inl (cA_buffer, 200, .inl A_buffer)), (qO, .inl (cO, 1, .inr (.inl O_v)))] sz)) 3 18 (va_A [(qA, .inr (0, [.ref qA_ring, .ref qA_buffer, .int A_firstPlace, .int A_forcedPlace, .int A_endPlace, .int A_wordsToFailure, .int A_opened])), (qA_ring, .inl (cA_ring, 65536, .inl A_ring)), (qA_buffer, .inl (cA_buffer, 200, .inl A_buffer)), (qO, .inl (cO, 1, .inr (.inl O_v)))] sz) := by
  refine va_MetW (cc := cL_giveBack) (maxL := 4) (ret := (some .int)) (by decide) rfl ?_
  intro p e s m args below meth c s₁ B hml hv
  obtain ⟨hav, hsz, hP, hK, hD0, hXW0⟩ := hv
  have hx := B.exec
  have hb := B.bytes
  have hr := B.returns
  have hts := atoms_spec (ws := wsL_giveBack) B.pre
  have hbg : ∀ w ∈ bigW, w.before args s = true := fun w h => hts w (List.mem_cons_of_mem _ h)
  have hown : s.vm.findClass RL = some m.cls := findClass_of_methodNamed B.named
  have hlocks := B.notSynchronized
  have hTab : c.exceptionTable.toList = tableOf [(0, 9, 12, 13), (0, 9, 15, 30)] := vx_table (x := yL_giveBack) B (hts _ List.mem_cons_self)
  subst hsz
  have hD := hD0.self (sz := s.heap.size)
  generalize hAe : va_A [(qA, .inr (0, [.ref qA_ring, .ref qA_buffer, .int A_firstPlace, .int A_forcedPlace, .int A_endPlace, .int A_wordsToFailure, .int A_opened])), (qA_ring, .inl (cA_ring, 65536, .inl A_ring)), (qA_buffer, .inl (cA_buffer, 200, .inl A_buffer)), (qO, .inl (cO, 1, .inr (.inl O_v)))] s.heap.size = A at hD hXW0 ⊢
  have hA : ∀ q : Nat, s.heap.size ≤ q → A q := fun q h => by rw [← hAe]; exact Or.inr h
  have hS : va_S A s.heap s.heap [] := va_S.rf
  have hP : va_P (dC, dI) vwCl [(qA, .inr (0, [.ref qA_ring, .ref qA_buffer, .int A_firstPlace, .int A_forcedPlace, .int A_endPlace, .int A_wordsToFailure, .int A_opened])), (qA_ring, .inl (cA_ring, 65536, .inl A_ring)), (qA_buffer, .inl (cA_buffer, 200, .inl A_buffer)), (qO, .inl (cO, 1, .inr (.inl O_v)))] s.heap := hP
  generalize hQQ : MQ below (va_Qi post (at_AO dC dI A qA qA_ring qA_buffer qO cA_ring cA_buffer cO) A) args s 3 18 A = QQ
  have hl := lv_entry ([.ref qA, .int x1, .ref qO]) (n := 4) (Nat.le_of_ble_eq_true rfl)
  rw [show entryFrame m args 4 = entryFrame m ([.ref qA, .int x1, .ref qO] : List Value).toArray 4 by rw [hav], lg_entry_eq]
  generalize (lg_sl ([.ref qA, .int x1, .ref qO]) ++ List.replicate (4 - (lg_sl ([.ref qA, .int x1, .ref qO])).length) Slot.unset).toArray = ls at hl ⊢
  have hl : lv_has ls 4 [(0, .ref qA), (1, .int x1), (2, .ref qO)] := hl
  unfold wp_L_giveBack at hw
  refine lv_aload_n hx hb dL_giveBack_0 rfl (lv_at hl 2 rfl) ?_
  refine lv_iconst (v := (0 : Int32)) hx hb dL_giveBack_1 (by decide) ?_
  refine lv_aload_n hx hb dL_giveBack_2 rfl (lv_at hl 0 rfl) ?_
  refine lv_iload_n hx hb dL_giveBack_3 rfl (lv_at hl 1 rfl) ?_
  have hPc := hP.sub (ws' := [(qA, .inr (0, [.ref qA_ring, .ref qA_buffer, .int A_firstPlace, .int A_forcedPlace, .int A_endPlace, .int A_wordsToFailure, .int A_opened])), (qA_ring, .inl (cA_ring, 65536, .inl A_ring)), (qA_buffer, .inl (cA_buffer, 200, .inl A_buffer))]) [0, 1, 2] rfl
  have hKc := hK.sub (tys' := [(cA_ring, .int), (cA_buffer, .int)]) [0, 1] rfl
  have hDc := hD.sub (ws' := [(qA, .inr (0, [.ref qA_ring, .ref qA_buffer, .int A_firstPlace, .int A_forcedPlace, .int A_endPlace, .int A_wordsToFailure, .int A_opened])), (qA_ring, .inl (cA_ring, 65536, .inl A_ring)), (qA_buffer, .inl (cA_buffer, 200, .inl A_buffer))]) [0, 1, 2] (by decide) rfl
  have hFc := va_free (wc := [(qA, .inr (0, [.ref qA_ring, .ref qA_buffer, .int A_firstPlace, .int A_forcedPlace, .int A_endPlace, .int A_wordsToFailure, .int A_opened])), (qA_ring, .inl (cA_ring, 65536, .inl A_ring)), (qA_buffer, .inl (cA_buffer, 200, .inl A_buffer))]) hD hS hA [0, 1, 2] rfl
  refine vx_calli (vx_runV (As := [.int x1]) (rest := [.int (0 : Int32), .ref qO]) ⟨hx, hb, hml, hown, hbg⟩ (met_X0_giveBack l hl9 dC dI qA qA_ring qA_buffer cA_ring cA_buffer s.heap.size A_ring A_buffer A_firstPlace A_forcedPlace A_endPlace A_wordsToFailure A_opened x1 _ _ hw) (cwV 1 hbg g_RL_36 rfl rfl rfl (by decide +kernel) ⟨Nat.le_of_ble_eq_true rfl, Nat.le_of_ble_eq_true rfl⟩) ⟨pcX_A_b _ _ _ _ _ _ _ _ _ _ _ _ _ _ _ _, va_recv hK hPc (ci := 0) (q0 := 0) rfl rfl, fun U hU hW => ⟨rfl, by rw [hU], by rw [hU]; exact hPc, va_K.moved hW.alike hKc, hDc.weaken (fun _ _ _ _ => trivial), XW.go hXW0 hS hFc hU hW⟩⟩ rfl rfl hl.1 rfl (lv_room (Nat.le_of_ble_eq_true rfl)) dL_giveBack_4 ⟨Nat.le_of_ble_eq_true rfl, Nat.le_of_ble_eq_true rfl⟩) hS (fun q _ h => hFc q h) hFc (fun q _ h => hFc q h) (fun E9 ce9 q9 u9 t9 H_1 locs ht hvm hpx hBX hz1 hk1 hS hce hcv hcl => ?_) (fun r_1 u_1 t_1 H_1 locs ht hvm hw hB hz1 hk1 hS => ?_)
  · obtain ⟨E8, A_ring_x1, A_buffer_x1, A_firstPlace_x1, A_forcedPlace_x1, A_endPlace_x1, A_wordsToFailure_x1, A_opened_x1⟩ := u9
    obtain ⟨rfl, hP1, hK1, hD1⟩ := hBX
    rw [ht] at hP1
    obtain ⟨hP, hD⟩ := va_join (wr := [(qO, .inl (cO, 1, .inr (.inl O_v)))]) (w1 := [(qA, .inr (0, [.ref qA_ring, .ref qA_buffer, .int A_firstPlace_x1, .int A_forcedPlace_x1, .int A_endPlace_x1, .int A_wordsToFailure_x1, .int A_opened_x1])), (qA_ring, .inl (cA_ring, 65536, .inl A_ring_x1)), (qA_buffer, .inl (cA_buffer, 200, .inl A_buffer_x1))]) hP hD [0, 1, 2] [3] rfl rfl (by decide) (by decide) hk1 hFc hP1 hD1
    have hP : va_P (dC, dI) vwCl [(qA, .inr (0, [.ref qA_ring, .ref qA_buffer, .int A_firstPlace_x1, .int A_forcedPlace_x1, .int A_endPlace_x1, .int A_wordsToFailure_x1, .int A_opened_x1])), (qA_ring, .inl (cA_ring, 65536, .inl A_ring_x1)), (qA_buffer, .inl (cA_buffer, 200, .inl A_buffer_x1)), (qO, .inl (cO, 1, .inr (.inl O_v)))] H_1 := hP.sub [1, 2, 3, 0] rfl
    have hD : va_D A [(qA, .inr (0, [.ref qA_ring, .ref qA_buffer, .int A_firstPlace_x1, .int A_forcedPlace_x1, .int A_endPlace_x1, .int A_wordsToFailure_x1, .int A_opened_x1])), (qA_ring, .inl (cA_ring, 65536, .inl A_ring_x1)), (qA_buffer, .inl (cA_buffer, 200, .inl A_buffer_x1)), (qO, .inl (cO, 1, .inr (.inl O_v)))] := hD.sub [1, 2, 3, 0] (by decide) rfl
    try dsimp only at hpx
    rcases hpx with ⟨rfl, hw⟩ | ⟨rfl, hw⟩
    · refine vx_widen (k := 3) (n := 18) (Nat.le_of_ble_eq_true rfl) (Nat.le_of_ble_eq_true rfl) ?_
      refine vx_catch (own := RL) (name := "java/lang/IllegalStateException") (E := "java/lang/IllegalStateException") hown [] ⟨0, 9, 12, 13⟩ [⟨0, 9, 15, 30⟩] (by rw [hTab]; rfl) (fun z hz => nomatch hz) (by decide) (by decide) (hbg _ kw_186) (va_Nw.use rfl (hXW0.1 "java/lang/IllegalStateException" (by decide))) hce hcv hcl ?_
      refine lv_astore_n (lv' := [(3, .ref q9), (0, .ref qA), (1, .int x1), (2, .ref qO)]) hx hb dL_giveBack_12 rfl hl (by decide) rfl (fun ls hl => ?_)
      refine lv_iconst (v := (1 : Int32)) hx hb dL_giveBack_13 (by decide) ?_
      subst hQQ
      refine W.widen (k := 3) (n := 18) (Nat.le_of_ble_eq_true rfl) (Nat.le_of_ble_eq_true rfl) ?_
      exact W.iret (v := (1 : Int32)) hx hb hr (fun t ht hW => ⟨⟨(1 : Int32), (A_ring_x1, A_buffer_x1, A_firstPlace_x1, A_forcedPlace_x1, A_endPlace_x1, A_wordsToFailure_x1, A_opened_x1, O_v), rfl, hw, by rw [ht]; exact hP, va_K.moved hW.alike hK, hD⟩, hS.F ht⟩) hS.2.2 dL_giveBack_14
    · refine vx_widen (k := 3) (n := 18) (Nat.le_of_ble_eq_true rfl) (Nat.le_of_ble_eq_true rfl) ?_
      refine vx_catch (own := RL) (name := "java/util/NoSuchElementException") (E := "java/util/NoSuchElementException") hown [⟨0, 9, 12, 13⟩] ⟨0, 9, 15, 30⟩ [] (by rw [hTab]; rfl) (by
        intro z hz
        rcases List.mem_cons.mp hz with rfl | hz
        · exact Or.inr ⟨by decide, "java/lang/IllegalStateException", hbg _ kw_186, hXW0.2.2.2.1 ("java/util/NoSuchElementException", "java/lang/IllegalStateException") (by decide)⟩
        cases hz) (by decide) (by decide) (hbg _ kw_201) (va_Nw.use rfl (hXW0.1 "java/util/NoSuchElementException" (by decide))) hce hcv hcl ?_
      refine lv_astore_n (lv' := [(3, .ref q9), (0, .ref qA), (1, .int x1), (2, .ref qO)]) hx hb dL_giveBack_15 rfl hl (by decide) rfl (fun ls hl => ?_)
      refine lv_iconst (v := (2 : Int32)) hx hb dL_giveBack_16 (by decide) ?_
      subst hQQ
      refine W.widen (k := 3) (n := 18) (Nat.le_of_ble_eq_true rfl) (Nat.le_of_ble_eq_true rfl) ?_
      exact W.iret (v := (2 : Int32)) hx hb hr (fun t ht hW => ⟨⟨(2 : Int32), (A_ring_x1, A_buffer_x1, A_firstPlace_x1, A_forcedPlace_x1, A_endPlace_x1, A_wordsToFailure_x1, A_opened_x1, O_v), rfl, hw, by rw [ht]; exact hP, va_K.moved hW.alike hK, hD⟩, hS.F ht⟩) hS.2.2 dL_giveBack_17
  · obtain ⟨A_ring_1, A_buffer_1, A_firstPlace_1, A_forcedPlace_1, A_endPlace_1, A_wordsToFailure_1, A_opened_1⟩ := u_1
    obtain ⟨hP1, hK1, hD1⟩ := hB
    rw [ht] at hP1
    try dsimp only at hw
    obtain ⟨hP, hD⟩ := va_join (wr := [(qO, .inl (cO, 1, .inr (.inl O_v)))]) (w1 := [(qA, .inr (0, [.ref qA_ring, .ref qA_buffer, .int A_firstPlace_1, .int A_forcedPlace_1, .int A_endPlace_1, .int A_wordsToFailure_1, .int A_opened_1])), (qA_ring, .inl (cA_ring, 65536, .inl A_ring_1)), (qA_buffer, .inl (cA_buffer, 200, .inl A_buffer_1))]) hP hD [0, 1, 2] [3] rfl rfl (by decide) (by decide) hk1 hFc hP1 hD1
    have hP : va_P (dC, dI) vwCl [(qA, .inr (0, [.ref qA_ring, .ref qA_buffer, .int A_firstPlace_1, .int A_forcedPlace_1, .int A_endPlace_1, .int A_wordsToFailure_1, .int A_opened_1])), (qA_ring, .inl (cA_ring, 65536, .inl A_ring_1)), (qA_buffer, .inl (cA_buffer, 200, .inl A_buffer_1)), (qO, .inl (cO, 1, .inr (.inl O_v)))] H_1 := hP.sub [1, 2, 3, 0] rfl
    have hD : va_D A [(qA, .inr (0, [.ref qA_ring, .ref qA_buffer, .int A_firstPlace_1, .int A_forcedPlace_1, .int A_endPlace_1, .int A_wordsToFailure_1, .int A_opened_1])), (qA_ring, .inl (cA_ring, 65536, .inl A_ring_1)), (qA_buffer, .inl (cA_buffer, 200, .inl A_buffer_1)), (qO, .inl (cO, 1, .inr (.inl O_v)))] := hD.sub [1, 2, 3, 0] (by decide) rfl
    refine W.widen (k := 3) (n := 18) (Nat.le_of_ble_eq_true rfl) (Nat.le_of_ble_eq_true rfl) ?_
    refine lv_i2l (v := r_1.toInt64) hx hb dL_giveBack_7 rfl ?_
    obtain ⟨h_2, hw⟩ := hw
    refine va_last hx hb hK hP hD hS 3 2 rfl rfl h_2 dL_giveBack_8 (fun H_3 locs hP hD hS => ?_)
    have hP : va_P (dC, dI) vwCl [(qA, .inr (0, [.ref qA_ring, .ref qA_buffer, .int A_firstPlace_1, .int A_forcedPlace_1, .int A_endPlace_1, .int A_wordsToFailure_1, .int A_opened_1])), (qA_ring, .inl (cA_ring, 65536, .inl A_ring_1)), (qA_buffer, .inl (cA_buffer, 200, .inl A_buffer_1)), (qO, .inl (cO, 1, .inr (.inl (vp_updL O_v (0 : Int32).toNatClampNeg r_1.toInt64))))] H_3 := hP
    have hD : va_D A [(qA, .inr (0, [.ref qA_ring, .ref qA_buffer, .int A_firstPlace_1, .int A_forcedPlace_1, .int A_endPlace_1, .int A_wordsToFailure_1, .int A_opened_1])), (qA_ring, .inl (cA_ring, 65536, .inl A_ring_1)), (qA_buffer, .inl (cA_buffer, 200, .inl A_buffer_1)), (qO, .inl (cO, 1, .inr (.inl (vp_updL O_v (0 : Int32).toNatClampNeg r_1.toInt64))))] := hD
    refine lv_goto (tgt := 18) hx hb dL_giveBack_9 (by decide) ?_
    refine lv_iconst (v := (0 : Int32)) hx hb dL_giveBack_18 (by decide) ?_
    subst hQQ
    refine W.widen (k := 3) (n := 18) (Nat.le_of_ble_eq_true rfl) (Nat.le_of_ble_eq_true rfl) ?_
    exact W.iret (v := (0 : Int32)) hx hb hr (fun t ht hW => ⟨⟨(0 : Int32), (A_ring_1, A_buffer_1, A_firstPlace_1, A_forcedPlace_1, A_endPlace_1, A_wordsToFailure_1, A_opened_1, vp_updL O_v (0 : Int32).toNatClampNeg r_1.toInt64), rfl, hw, by rw [ht]; exact hP, va_K.moved hW.alike hK, hD⟩, hS.F ht⟩) hS.2.2 dL_giveBack_19
def wp_L_first (post : Int32 → St_AO → Prop) (A_ring : Nat → Int32) (A_buffer : Nat → Int32) (A_firstPlace : Int32) (A_forcedPlace : Int32) (A_endPlace : Int32) (A_wordsToFailure : Int32) (A_opened : Int32) (O_v : Nat → Int64) : Prop :=
  wp_X0_first (fun r_1 u_1 => match u_1 with | (A_ring_1, A_buffer_1, A_firstPlace_1, A_forcedPlace_1, A_endPlace_1, A_wordsToFailure_1, A_opened_1) => vp_in (0 : Int32) 1 ∧ (post (0 : Int32) (A_ring_1, A_buffer_1, A_firstPlace_1, A_forcedPlace_1, A_endPlace_1, A_wordsToFailure_1, A_opened_1, vp_updL O_v (0 : Int32).toNatClampNeg r_1.toInt64))) (fun E9 u9 => match u9 with | (A_ring_x1, A_buffer_x1, A_firstPlace_x1, A_forcedPlace_x1, A_endPlace_x1, A_wordsToFailure_x1, A_opened_x1) => (E9 = "java/lang/IllegalStateException" ∧ post (1 : Int32) (A_ring_x1, A_buffer_x1, A_firstPlace_x1, A_forcedPlace_x1, A_endPlace_x1, A_wordsToFailure_x1, A_opened_x1, O_v))) A_ring A_buffer A_firstPlace A_forcedPlace A_endPlace A_wordsToFailure A_opened
set_option maxHeartbeats 4000000 in
set_option maxRecDepth 100000 in
theorem met_L_first (l : Launch) (hl9 : l.stackTraces = false) (dC : Nat → ClassId) (dI : Nat → Nat → Nat) (qA qA_ring qA_buffer qO : Nat) (cA_ring cA_buffer cO : ClassId) (sz : Nat) (A_ring : Nat → Int32) (A_buffer : Nat → Int32) (A_firstPlace : Int32) (A_forcedPlace : Int32) (A_endPlace : Int32) (A_wordsToFailure : Int32) (A_opened : Int32) (O_v : Nat → Int64) (post : Int32 → St_AO → Prop) (hw : wp_L_first post A_ring A_buffer A_firstPlace A_forcedPlace A_endPlace A_wordsToFailure A_opened O_v) :
    Met l yL_first wsL_first ({ frames := 8, cells := 1, slots := 6, locals := 136 } : Room) (pcX_AO dC dI qA qA_ring qA_buffer qO cA_ring cA_buffer cO sz A_ring A_buffer A_firstPlace A_forcedPlace A_endPlace A_wordsToFailure A_opened O_v [.ref qA, .ref qO]) (va_Qi post (at_AO dC dI (va_A [(qA, .inr (0, [.ref qA_ring, .ref qA_buffer, .int A_firstPlace, .int A_forcedPlace, .int A_endPlace, .int A_wordsToFailure, .int A_opened])), (qA_ring, .inl (cA_ring, 65536, .inl A_ring)), (qA_buffer, .inl (cA_buffer, 200, .inl A_buffer)), (qO, .inl (cO, 1, .inr (.inl O_v)))] sz) qA qA_ring qA_buffer qO cA_ring cA_buffer cO) (va_A [(qA, .inr (0, [.ref qA_ring, .ref qA_buffer, .int A_firstPlace, .int A_forcedPlace, .int A_endPlace, .int A_wordsToFailure, .int A_opened])), (qA_ring, .inl (cA_ring, 65536, .inl A_ring)), (qA_buffer, .inl (cA_buffer, 200, .inl A_buffer)), (qO, .inl (cO, 1, .inr (.inl O_v)))] sz)) 1 6 (va_A [(qA, .inr (0, [.ref qA_ring, .ref qA_buffer, .int A_firstPlace, .int A_forcedPlace, .int A_endPlace, .int A_wordsToFailure, .int A_opened])), (qA_ring, .inl (cA_ring, 65536, .inl A_ring)), (qA_buffer, .inl (cA_buffer, 200, .inl A_buffer)), (qO, .inl (cO, 1, .inr (.inl O_v)))] sz) := by
  refine va_MetW (cc := cL_first) (maxL := 3) (ret := (some .int)) (by decide) rfl ?_
  intro p e s m args below meth c s₁ B hml hv
  obtain ⟨hav, hsz, hP, hK, hD0, hXW0⟩ := hv
  have hx := B.exec
  have hb := B.bytes
  have hr := B.returns
  have hts := atoms_spec (ws := wsL_first) B.pre
  have hbg : ∀ w ∈ bigW, w.before args s = true := fun w h => hts w (List.mem_cons_of_mem _ h)
  have hown : s.vm.findClass RL = some m.cls := findClass_of_methodNamed B.named
  have hlocks := B.notSynchronized
  have hTab : c.exceptionTable.toList = tableOf [(0, 8, 11, 13)] := vx_table (x := yL_first) B (hts _ List.mem_cons_self)
  subst hsz
  have hD := hD0.self (sz := s.heap.size)
  generalize hAe : va_A [(qA, .inr (0, [.ref qA_ring, .ref qA_buffer, .int A_firstPlace, .int A_forcedPlace, .int A_endPlace, .int A_wordsToFailure, .int A_opened])), (qA_ring, .inl (cA_ring, 65536, .inl A_ring)), (qA_buffer, .inl (cA_buffer, 200, .inl A_buffer)), (qO, .inl (cO, 1, .inr (.inl O_v)))] s.heap.size = A at hD hXW0 ⊢
  have hA : ∀ q : Nat, s.heap.size ≤ q → A q := fun q h => by rw [← hAe]; exact Or.inr h
  have hS : va_S A s.heap s.heap [] := va_S.rf
  have hP : va_P (dC, dI) vwCl [(qA, .inr (0, [.ref qA_ring, .ref qA_buffer, .int A_firstPlace, .int A_forcedPlace, .int A_endPlace, .int A_wordsToFailure, .int A_opened])), (qA_ring, .inl (cA_ring, 65536, .inl A_ring)), (qA_buffer, .inl (cA_buffer, 200, .inl A_buffer)), (qO, .inl (cO, 1, .inr (.inl O_v)))] s.heap := hP
  generalize hQQ : MQ below (va_Qi post (at_AO dC dI A qA qA_ring qA_buffer qO cA_ring cA_buffer cO) A) args s 1 6 A = QQ
  have hl := lv_entry ([.ref qA, .ref qO]) (n := 3) (Nat.le_of_ble_eq_true rfl)
  rw [show entryFrame m args 3 = entryFrame m ([.ref qA, .ref qO] : List Value).toArray 3 by rw [hav], lg_entry_eq]
  generalize (lg_sl ([.ref qA, .ref qO]) ++ List.replicate (3 - (lg_sl ([.ref qA, .ref qO])).length) Slot.unset).toArray = ls at hl ⊢
  have hl : lv_has ls 3 [(0, .ref qA), (1, .ref qO)] := hl
  unfold wp_L_first at hw
  refine lv_aload_n hx hb dL_first_0 rfl (lv_at hl 1 rfl) ?_
  refine lv_iconst (v := (0 : Int32)) hx hb dL_first_1 (by decide) ?_
  refine lv_aload_n hx hb dL_first_2 rfl (lv_at hl 0 rfl) ?_
  have hPc := hP.sub (ws' := [(qA, .inr (0, [.ref qA_ring, .ref qA_buffer, .int A_firstPlace, .int A_forcedPlace, .int A_endPlace, .int A_wordsToFailure, .int A_opened])), (qA_ring, .inl (cA_ring, 65536, .inl A_ring)), (qA_buffer, .inl (cA_buffer, 200, .inl A_buffer))]) [0, 1, 2] rfl
  have hKc := hK.sub (tys' := [(cA_ring, .int), (cA_buffer, .int)]) [0, 1] rfl
  have hDc := hD.sub (ws' := [(qA, .inr (0, [.ref qA_ring, .ref qA_buffer, .int A_firstPlace, .int A_forcedPlace, .int A_endPlace, .int A_wordsToFailure, .int A_opened])), (qA_ring, .inl (cA_ring, 65536, .inl A_ring)), (qA_buffer, .inl (cA_buffer, 200, .inl A_buffer))]) [0, 1, 2] (by decide) rfl
  have hFc := va_free (wc := [(qA, .inr (0, [.ref qA_ring, .ref qA_buffer, .int A_firstPlace, .int A_forcedPlace, .int A_endPlace, .int A_wordsToFailure, .int A_opened])), (qA_ring, .inl (cA_ring, 65536, .inl A_ring)), (qA_buffer, .inl (cA_buffer, 200, .inl A_buffer))]) hD hS hA [0, 1, 2] rfl
  refine vx_calli (vx_runV (As := []) (rest := [.int (0 : Int32), .ref qO]) ⟨hx, hb, hml, hown, hbg⟩ (met_X0_first l hl9 dC dI qA qA_ring qA_buffer cA_ring cA_buffer s.heap.size A_ring A_buffer A_firstPlace A_forcedPlace A_endPlace A_wordsToFailure A_opened  _ _ hw) (cwV 0 hbg g_RL_39 rfl rfl rfl (by decide +kernel) ⟨Nat.le_of_ble_eq_true rfl, Nat.le_of_ble_eq_true rfl⟩) ⟨pcX_A_b _ _ _ _ _ _ _ _ _ _ _ _ _ _ _ _, va_recv hK hPc (ci := 0) (q0 := 0) rfl rfl, fun U hU hW => ⟨rfl, by rw [hU], by rw [hU]; exact hPc, va_K.moved hW.alike hKc, hDc.weaken (fun _ _ _ _ => trivial), XW.go hXW0 hS hFc hU hW⟩⟩ rfl rfl hl.1 rfl (lv_room (Nat.le_of_ble_eq_true rfl)) dL_first_3 ⟨Nat.le_of_ble_eq_true rfl, Nat.le_of_ble_eq_true rfl⟩) hS (fun q _ h => hFc q h) hFc (fun q _ h => hFc q h) (fun E9 ce9 q9 u9 t9 H_1 locs ht hvm hpx hBX hz1 hk1 hS hce hcv hcl => ?_) (fun r_1 u_1 t_1 H_1 locs ht hvm hw hB hz1 hk1 hS => ?_)
  · obtain ⟨E8, A_ring_x1, A_buffer_x1, A_firstPlace_x1, A_forcedPlace_x1, A_endPlace_x1, A_wordsToFailure_x1, A_opened_x1⟩ := u9
    obtain ⟨rfl, hP1, hK1, hD1⟩ := hBX
    rw [ht] at hP1
    obtain ⟨hP, hD⟩ := va_join (wr := [(qO, .inl (cO, 1, .inr (.inl O_v)))]) (w1 := [(qA, .inr (0, [.ref qA_ring, .ref qA_buffer, .int A_firstPlace_x1, .int A_forcedPlace_x1, .int A_endPlace_x1, .int A_wordsToFailure_x1, .int A_opened_x1])), (qA_ring, .inl (cA_ring, 65536, .inl A_ring_x1)), (qA_buffer, .inl (cA_buffer, 200, .inl A_buffer_x1))]) hP hD [0, 1, 2] [3] rfl rfl (by decide) (by decide) hk1 hFc hP1 hD1
    have hP : va_P (dC, dI) vwCl [(qA, .inr (0, [.ref qA_ring, .ref qA_buffer, .int A_firstPlace_x1, .int A_forcedPlace_x1, .int A_endPlace_x1, .int A_wordsToFailure_x1, .int A_opened_x1])), (qA_ring, .inl (cA_ring, 65536, .inl A_ring_x1)), (qA_buffer, .inl (cA_buffer, 200, .inl A_buffer_x1)), (qO, .inl (cO, 1, .inr (.inl O_v)))] H_1 := hP.sub [1, 2, 3, 0] rfl
    have hD : va_D A [(qA, .inr (0, [.ref qA_ring, .ref qA_buffer, .int A_firstPlace_x1, .int A_forcedPlace_x1, .int A_endPlace_x1, .int A_wordsToFailure_x1, .int A_opened_x1])), (qA_ring, .inl (cA_ring, 65536, .inl A_ring_x1)), (qA_buffer, .inl (cA_buffer, 200, .inl A_buffer_x1)), (qO, .inl (cO, 1, .inr (.inl O_v)))] := hD.sub [1, 2, 3, 0] (by decide) rfl
    try dsimp only at hpx
    rcases hpx with ⟨rfl, hw⟩
    · refine vx_widen (k := 1) (n := 6) (Nat.le_of_ble_eq_true rfl) (Nat.le_of_ble_eq_true rfl) ?_
      refine vx_catch (own := RL) (name := "java/lang/IllegalStateException") (E := "java/lang/IllegalStateException") hown [] ⟨0, 8, 11, 13⟩ [] (by rw [hTab]; rfl) (fun z hz => nomatch hz) (by decide) (by decide) (hbg _ kw_186) (va_Nw.use rfl (hXW0.1 "java/lang/IllegalStateException" (by decide))) hce hcv hcl ?_
      refine lv_astore_n (lv' := [(2, .ref q9), (0, .ref qA), (1, .ref qO)]) hx hb dL_first_11 rfl hl (by decide) rfl (fun ls hl => ?_)
      refine lv_iconst (v := (1 : Int32)) hx hb dL_first_12 (by decide) ?_
      subst hQQ
      refine W.widen (k := 1) (n := 6) (Nat.le_of_ble_eq_true rfl) (Nat.le_of_ble_eq_true rfl) ?_
      exact W.iret (v := (1 : Int32)) hx hb hr (fun t ht hW => ⟨⟨(1 : Int32), (A_ring_x1, A_buffer_x1, A_firstPlace_x1, A_forcedPlace_x1, A_endPlace_x1, A_wordsToFailure_x1, A_opened_x1, O_v), rfl, hw, by rw [ht]; exact hP, va_K.moved hW.alike hK, hD⟩, hS.F ht⟩) hS.2.2 dL_first_13
  · obtain ⟨A_ring_1, A_buffer_1, A_firstPlace_1, A_forcedPlace_1, A_endPlace_1, A_wordsToFailure_1, A_opened_1⟩ := u_1
    obtain ⟨hP1, hK1, hD1⟩ := hB
    rw [ht] at hP1
    try dsimp only at hw
    obtain ⟨hP, hD⟩ := va_join (wr := [(qO, .inl (cO, 1, .inr (.inl O_v)))]) (w1 := [(qA, .inr (0, [.ref qA_ring, .ref qA_buffer, .int A_firstPlace_1, .int A_forcedPlace_1, .int A_endPlace_1, .int A_wordsToFailure_1, .int A_opened_1])), (qA_ring, .inl (cA_ring, 65536, .inl A_ring_1)), (qA_buffer, .inl (cA_buffer, 200, .inl A_buffer_1))]) hP hD [0, 1, 2] [3] rfl rfl (by decide) (by decide) hk1 hFc hP1 hD1
    have hP : va_P (dC, dI) vwCl [(qA, .inr (0, [.ref qA_ring, .ref qA_buffer, .int A_firstPlace_1, .int A_forcedPlace_1, .int A_endPlace_1, .int A_wordsToFailure_1, .int A_opened_1])), (qA_ring, .inl (cA_ring, 65536, .inl A_ring_1)), (qA_buffer, .inl (cA_buffer, 200, .inl A_buffer_1)), (qO, .inl (cO, 1, .inr (.inl O_v)))] H_1 := hP.sub [1, 2, 3, 0] rfl
    have hD : va_D A [(qA, .inr (0, [.ref qA_ring, .ref qA_buffer, .int A_firstPlace_1, .int A_forcedPlace_1, .int A_endPlace_1, .int A_wordsToFailure_1, .int A_opened_1])), (qA_ring, .inl (cA_ring, 65536, .inl A_ring_1)), (qA_buffer, .inl (cA_buffer, 200, .inl A_buffer_1)), (qO, .inl (cO, 1, .inr (.inl O_v)))] := hD.sub [1, 2, 3, 0] (by decide) rfl
    refine W.widen (k := 1) (n := 6) (Nat.le_of_ble_eq_true rfl) (Nat.le_of_ble_eq_true rfl) ?_
    refine lv_i2l (v := r_1.toInt64) hx hb dL_first_6 rfl ?_
    obtain ⟨h_2, hw⟩ := hw
    refine va_last hx hb hK hP hD hS 3 2 rfl rfl h_2 dL_first_7 (fun H_3 locs hP hD hS => ?_)
    have hP : va_P (dC, dI) vwCl [(qA, .inr (0, [.ref qA_ring, .ref qA_buffer, .int A_firstPlace_1, .int A_forcedPlace_1, .int A_endPlace_1, .int A_wordsToFailure_1, .int A_opened_1])), (qA_ring, .inl (cA_ring, 65536, .inl A_ring_1)), (qA_buffer, .inl (cA_buffer, 200, .inl A_buffer_1)), (qO, .inl (cO, 1, .inr (.inl (vp_updL O_v (0 : Int32).toNatClampNeg r_1.toInt64))))] H_3 := hP
    have hD : va_D A [(qA, .inr (0, [.ref qA_ring, .ref qA_buffer, .int A_firstPlace_1, .int A_forcedPlace_1, .int A_endPlace_1, .int A_wordsToFailure_1, .int A_opened_1])), (qA_ring, .inl (cA_ring, 65536, .inl A_ring_1)), (qA_buffer, .inl (cA_buffer, 200, .inl A_buffer_1)), (qO, .inl (cO, 1, .inr (.inl (vp_updL O_v (0 : Int32).toNatClampNeg r_1.toInt64))))] := hD
    refine lv_goto (tgt := 14) hx hb dL_first_8 (by decide) ?_
    refine lv_iconst (v := (0 : Int32)) hx hb dL_first_14 (by decide) ?_
    subst hQQ
    refine W.widen (k := 1) (n := 6) (Nat.le_of_ble_eq_true rfl) (Nat.le_of_ble_eq_true rfl) ?_
    exact W.iret (v := (0 : Int32)) hx hb hr (fun t ht hW => ⟨⟨(0 : Int32), (A_ring_1, A_buffer_1, A_firstPlace_1, A_forcedPlace_1, A_endPlace_1, A_wordsToFailure_1, A_opened_1, vp_updL O_v (0 : Int32).toNatClampNeg r_1.toInt64), rfl, hw, by rw [ht]; exact hP, va_K.moved hW.alike hK, hD⟩, hS.F ht⟩) hS.2.2 dL_first_15
def wp_L_last (post : Int32 → St_AO → Prop) (A_ring : Nat → Int32) (A_buffer : Nat → Int32) (A_firstPlace : Int32) (A_forcedPlace : Int32) (A_endPlace : Int32) (A_wordsToFailure : Int32) (A_opened : Int32) (O_v : Nat → Int64) : Prop :=
  wp_X0_last (fun r_1 u_1 => match u_1 with | (A_ring_1, A_buffer_1, A_firstPlace_1, A_forcedPlace_1, A_endPlace_1, A_wordsToFailure_1, A_opened_1) => vp_in (0 : Int32) 1 ∧ (post (0 : Int32) (A_ring_1, A_buffer_1, A_firstPlace_1, A_forcedPlace_1, A_endPlace_1, A_wordsToFailure_1, A_opened_1, vp_updL O_v (0 : Int32).toNatClampNeg r_1.toInt64))) (fun E9 u9 => match u9 with | (A_ring_x1, A_buffer_x1, A_firstPlace_x1, A_forcedPlace_x1, A_endPlace_x1, A_wordsToFailure_x1, A_opened_x1) => (E9 = "java/lang/IllegalStateException" ∧ post (1 : Int32) (A_ring_x1, A_buffer_x1, A_firstPlace_x1, A_forcedPlace_x1, A_endPlace_x1, A_wordsToFailure_x1, A_opened_x1, O_v))) A_ring A_buffer A_firstPlace A_forcedPlace A_endPlace A_wordsToFailure A_opened
set_option maxHeartbeats 4000000 in
set_option maxRecDepth 100000 in
theorem met_L_last (l : Launch) (hl9 : l.stackTraces = false) (dC : Nat → ClassId) (dI : Nat → Nat → Nat) (qA qA_ring qA_buffer qO : Nat) (cA_ring cA_buffer cO : ClassId) (sz : Nat) (A_ring : Nat → Int32) (A_buffer : Nat → Int32) (A_firstPlace : Int32) (A_forcedPlace : Int32) (A_endPlace : Int32) (A_wordsToFailure : Int32) (A_opened : Int32) (O_v : Nat → Int64) (post : Int32 → St_AO → Prop) (hw : wp_L_last post A_ring A_buffer A_firstPlace A_forcedPlace A_endPlace A_wordsToFailure A_opened O_v) :
    Met l yL_last wsL_last ({ frames := 8, cells := 1, slots := 6, locals := 136 } : Room) (pcX_AO dC dI qA qA_ring qA_buffer qO cA_ring cA_buffer cO sz A_ring A_buffer A_firstPlace A_forcedPlace A_endPlace A_wordsToFailure A_opened O_v [.ref qA, .ref qO]) (va_Qi post (at_AO dC dI (va_A [(qA, .inr (0, [.ref qA_ring, .ref qA_buffer, .int A_firstPlace, .int A_forcedPlace, .int A_endPlace, .int A_wordsToFailure, .int A_opened])), (qA_ring, .inl (cA_ring, 65536, .inl A_ring)), (qA_buffer, .inl (cA_buffer, 200, .inl A_buffer)), (qO, .inl (cO, 1, .inr (.inl O_v)))] sz) qA qA_ring qA_buffer qO cA_ring cA_buffer cO) (va_A [(qA, .inr (0, [.ref qA_ring, .ref qA_buffer, .int A_firstPlace, .int A_forcedPlace, .int A_endPlace, .int A_wordsToFailure, .int A_opened])), (qA_ring, .inl (cA_ring, 65536, .inl A_ring)), (qA_buffer, .inl (cA_buffer, 200, .inl A_buffer)), (qO, .inl (cO, 1, .inr (.inl O_v)))] sz)) 1 6 (va_A [(qA, .inr (0, [.ref qA_ring, .ref qA_buffer, .int A_firstPlace, .int A_forcedPlace, .int A_endPlace, .int A_wordsToFailure, .int A_opened])), (qA_ring, .inl (cA_ring, 65536, .inl A_ring)), (qA_buffer, .inl (cA_buffer, 200, .inl A_buffer)), (qO, .inl (cO, 1, .inr (.inl O_v)))] sz) := by
  refine va_MetW (cc := cL_last) (maxL := 3) (ret := (some .int)) (by decide) rfl ?_
  intro p e s m args below meth c s₁ B hml hv
  obtain ⟨hav, hsz, hP, hK, hD0, hXW0⟩ := hv
  have hx := B.exec
  have hb := B.bytes
  have hr := B.returns
  have hts := atoms_spec (ws := wsL_last) B.pre
  have hbg : ∀ w ∈ bigW, w.before args s = true := fun w h => hts w (List.mem_cons_of_mem _ h)
  have hown : s.vm.findClass RL = some m.cls := findClass_of_methodNamed B.named
  have hlocks := B.notSynchronized
  have hTab : c.exceptionTable.toList = tableOf [(0, 8, 11, 13)] := vx_table (x := yL_last) B (hts _ List.mem_cons_self)
  subst hsz
  have hD := hD0.self (sz := s.heap.size)
  generalize hAe : va_A [(qA, .inr (0, [.ref qA_ring, .ref qA_buffer, .int A_firstPlace, .int A_forcedPlace, .int A_endPlace, .int A_wordsToFailure, .int A_opened])), (qA_ring, .inl (cA_ring, 65536, .inl A_ring)), (qA_buffer, .inl (cA_buffer, 200, .inl A_buffer)), (qO, .inl (cO, 1, .inr (.inl O_v)))] s.heap.size = A at hD hXW0 ⊢
  have hA : ∀ q : Nat, s.heap.size ≤ q → A q := fun q h => by rw [← hAe]; exact Or.inr h
  have hS : va_S A s.heap s.heap [] := va_S.rf
  have hP : va_P (dC, dI) vwCl [(qA, .inr (0, [.ref qA_ring, .ref qA_buffer, .int A_firstPlace, .int A_forcedPlace, .int A_endPlace, .int A_wordsToFailure, .int A_opened])), (qA_ring, .inl (cA_ring, 65536, .inl A_ring)), (qA_buffer, .inl (cA_buffer, 200, .inl A_buffer)), (qO, .inl (cO, 1, .inr (.inl O_v)))] s.heap := hP
  generalize hQQ : MQ below (va_Qi post (at_AO dC dI A qA qA_ring qA_buffer qO cA_ring cA_buffer cO) A) args s 1 6 A = QQ
  have hl := lv_entry ([.ref qA, .ref qO]) (n := 3) (Nat.le_of_ble_eq_true rfl)
  rw [show entryFrame m args 3 = entryFrame m ([.ref qA, .ref qO] : List Value).toArray 3 by rw [hav], lg_entry_eq]
  generalize (lg_sl ([.ref qA, .ref qO]) ++ List.replicate (3 - (lg_sl ([.ref qA, .ref qO])).length) Slot.unset).toArray = ls at hl ⊢
  have hl : lv_has ls 3 [(0, .ref qA), (1, .ref qO)] := hl
  unfold wp_L_last at hw
  refine lv_aload_n hx hb dL_last_0 rfl (lv_at hl 1 rfl) ?_
  refine lv_iconst (v := (0 : Int32)) hx hb dL_last_1 (by decide) ?_
  refine lv_aload_n hx hb dL_last_2 rfl (lv_at hl 0 rfl) ?_
  have hPc := hP.sub (ws' := [(qA, .inr (0, [.ref qA_ring, .ref qA_buffer, .int A_firstPlace, .int A_forcedPlace, .int A_endPlace, .int A_wordsToFailure, .int A_opened])), (qA_ring, .inl (cA_ring, 65536, .inl A_ring)), (qA_buffer, .inl (cA_buffer, 200, .inl A_buffer))]) [0, 1, 2] rfl
  have hKc := hK.sub (tys' := [(cA_ring, .int), (cA_buffer, .int)]) [0, 1] rfl
  have hDc := hD.sub (ws' := [(qA, .inr (0, [.ref qA_ring, .ref qA_buffer, .int A_firstPlace, .int A_forcedPlace, .int A_endPlace, .int A_wordsToFailure, .int A_opened])), (qA_ring, .inl (cA_ring, 65536, .inl A_ring)), (qA_buffer, .inl (cA_buffer, 200, .inl A_buffer))]) [0, 1, 2] (by decide) rfl
  have hFc := va_free (wc := [(qA, .inr (0, [.ref qA_ring, .ref qA_buffer, .int A_firstPlace, .int A_forcedPlace, .int A_endPlace, .int A_wordsToFailure, .int A_opened])), (qA_ring, .inl (cA_ring, 65536, .inl A_ring)), (qA_buffer, .inl (cA_buffer, 200, .inl A_buffer))]) hD hS hA [0, 1, 2] rfl
  refine vx_calli (vx_runV (As := []) (rest := [.int (0 : Int32), .ref qO]) ⟨hx, hb, hml, hown, hbg⟩ (met_X0_last l hl9 dC dI qA qA_ring qA_buffer cA_ring cA_buffer s.heap.size A_ring A_buffer A_firstPlace A_forcedPlace A_endPlace A_wordsToFailure A_opened  _ _ hw) (cwV 0 hbg g_RL_42 rfl rfl rfl (by decide +kernel) ⟨Nat.le_of_ble_eq_true rfl, Nat.le_of_ble_eq_true rfl⟩) ⟨pcX_A_b _ _ _ _ _ _ _ _ _ _ _ _ _ _ _ _, va_recv hK hPc (ci := 0) (q0 := 0) rfl rfl, fun U hU hW => ⟨rfl, by rw [hU], by rw [hU]; exact hPc, va_K.moved hW.alike hKc, hDc.weaken (fun _ _ _ _ => trivial), XW.go hXW0 hS hFc hU hW⟩⟩ rfl rfl hl.1 rfl (lv_room (Nat.le_of_ble_eq_true rfl)) dL_last_3 ⟨Nat.le_of_ble_eq_true rfl, Nat.le_of_ble_eq_true rfl⟩) hS (fun q _ h => hFc q h) hFc (fun q _ h => hFc q h) (fun E9 ce9 q9 u9 t9 H_1 locs ht hvm hpx hBX hz1 hk1 hS hce hcv hcl => ?_) (fun r_1 u_1 t_1 H_1 locs ht hvm hw hB hz1 hk1 hS => ?_)
  · obtain ⟨E8, A_ring_x1, A_buffer_x1, A_firstPlace_x1, A_forcedPlace_x1, A_endPlace_x1, A_wordsToFailure_x1, A_opened_x1⟩ := u9
    obtain ⟨rfl, hP1, hK1, hD1⟩ := hBX
    rw [ht] at hP1
    obtain ⟨hP, hD⟩ := va_join (wr := [(qO, .inl (cO, 1, .inr (.inl O_v)))]) (w1 := [(qA, .inr (0, [.ref qA_ring, .ref qA_buffer, .int A_firstPlace_x1, .int A_forcedPlace_x1, .int A_endPlace_x1, .int A_wordsToFailure_x1, .int A_opened_x1])), (qA_ring, .inl (cA_ring, 65536, .inl A_ring_x1)), (qA_buffer, .inl (cA_buffer, 200, .inl A_buffer_x1))]) hP hD [0, 1, 2] [3] rfl rfl (by decide) (by decide) hk1 hFc hP1 hD1
    have hP : va_P (dC, dI) vwCl [(qA, .inr (0, [.ref qA_ring, .ref qA_buffer, .int A_firstPlace_x1, .int A_forcedPlace_x1, .int A_endPlace_x1, .int A_wordsToFailure_x1, .int A_opened_x1])), (qA_ring, .inl (cA_ring, 65536, .inl A_ring_x1)), (qA_buffer, .inl (cA_buffer, 200, .inl A_buffer_x1)), (qO, .inl (cO, 1, .inr (.inl O_v)))] H_1 := hP.sub [1, 2, 3, 0] rfl
    have hD : va_D A [(qA, .inr (0, [.ref qA_ring, .ref qA_buffer, .int A_firstPlace_x1, .int A_forcedPlace_x1, .int A_endPlace_x1, .int A_wordsToFailure_x1, .int A_opened_x1])), (qA_ring, .inl (cA_ring, 65536, .inl A_ring_x1)), (qA_buffer, .inl (cA_buffer, 200, .inl A_buffer_x1)), (qO, .inl (cO, 1, .inr (.inl O_v)))] := hD.sub [1, 2, 3, 0] (by decide) rfl
    try dsimp only at hpx
    rcases hpx with ⟨rfl, hw⟩
    · refine vx_widen (k := 1) (n := 6) (Nat.le_of_ble_eq_true rfl) (Nat.le_of_ble_eq_true rfl) ?_
      refine vx_catch (own := RL) (name := "java/lang/IllegalStateException") (E := "java/lang/IllegalStateException") hown [] ⟨0, 8, 11, 13⟩ [] (by rw [hTab]; rfl) (fun z hz => nomatch hz) (by decide) (by decide) (hbg _ kw_186) (va_Nw.use rfl (hXW0.1 "java/lang/IllegalStateException" (by decide))) hce hcv hcl ?_
      refine lv_astore_n (lv' := [(2, .ref q9), (0, .ref qA), (1, .ref qO)]) hx hb dL_last_11 rfl hl (by decide) rfl (fun ls hl => ?_)
      refine lv_iconst (v := (1 : Int32)) hx hb dL_last_12 (by decide) ?_
      subst hQQ
      refine W.widen (k := 1) (n := 6) (Nat.le_of_ble_eq_true rfl) (Nat.le_of_ble_eq_true rfl) ?_
      exact W.iret (v := (1 : Int32)) hx hb hr (fun t ht hW => ⟨⟨(1 : Int32), (A_ring_x1, A_buffer_x1, A_firstPlace_x1, A_forcedPlace_x1, A_endPlace_x1, A_wordsToFailure_x1, A_opened_x1, O_v), rfl, hw, by rw [ht]; exact hP, va_K.moved hW.alike hK, hD⟩, hS.F ht⟩) hS.2.2 dL_last_13
  · obtain ⟨A_ring_1, A_buffer_1, A_firstPlace_1, A_forcedPlace_1, A_endPlace_1, A_wordsToFailure_1, A_opened_1⟩ := u_1
    obtain ⟨hP1, hK1, hD1⟩ := hB
    rw [ht] at hP1
    try dsimp only at hw
    obtain ⟨hP, hD⟩ := va_join (wr := [(qO, .inl (cO, 1, .inr (.inl O_v)))]) (w1 := [(qA, .inr (0, [.ref qA_ring, .ref qA_buffer, .int A_firstPlace_1, .int A_forcedPlace_1, .int A_endPlace_1, .int A_wordsToFailure_1, .int A_opened_1])), (qA_ring, .inl (cA_ring, 65536, .inl A_ring_1)), (qA_buffer, .inl (cA_buffer, 200, .inl A_buffer_1))]) hP hD [0, 1, 2] [3] rfl rfl (by decide) (by decide) hk1 hFc hP1 hD1
    have hP : va_P (dC, dI) vwCl [(qA, .inr (0, [.ref qA_ring, .ref qA_buffer, .int A_firstPlace_1, .int A_forcedPlace_1, .int A_endPlace_1, .int A_wordsToFailure_1, .int A_opened_1])), (qA_ring, .inl (cA_ring, 65536, .inl A_ring_1)), (qA_buffer, .inl (cA_buffer, 200, .inl A_buffer_1)), (qO, .inl (cO, 1, .inr (.inl O_v)))] H_1 := hP.sub [1, 2, 3, 0] rfl
    have hD : va_D A [(qA, .inr (0, [.ref qA_ring, .ref qA_buffer, .int A_firstPlace_1, .int A_forcedPlace_1, .int A_endPlace_1, .int A_wordsToFailure_1, .int A_opened_1])), (qA_ring, .inl (cA_ring, 65536, .inl A_ring_1)), (qA_buffer, .inl (cA_buffer, 200, .inl A_buffer_1)), (qO, .inl (cO, 1, .inr (.inl O_v)))] := hD.sub [1, 2, 3, 0] (by decide) rfl
    refine W.widen (k := 1) (n := 6) (Nat.le_of_ble_eq_true rfl) (Nat.le_of_ble_eq_true rfl) ?_
    refine lv_i2l (v := r_1.toInt64) hx hb dL_last_6 rfl ?_
    obtain ⟨h_2, hw⟩ := hw
    refine va_last hx hb hK hP hD hS 3 2 rfl rfl h_2 dL_last_7 (fun H_3 locs hP hD hS => ?_)
    have hP : va_P (dC, dI) vwCl [(qA, .inr (0, [.ref qA_ring, .ref qA_buffer, .int A_firstPlace_1, .int A_forcedPlace_1, .int A_endPlace_1, .int A_wordsToFailure_1, .int A_opened_1])), (qA_ring, .inl (cA_ring, 65536, .inl A_ring_1)), (qA_buffer, .inl (cA_buffer, 200, .inl A_buffer_1)), (qO, .inl (cO, 1, .inr (.inl (vp_updL O_v (0 : Int32).toNatClampNeg r_1.toInt64))))] H_3 := hP
    have hD : va_D A [(qA, .inr (0, [.ref qA_ring, .ref qA_buffer, .int A_firstPlace_1, .int A_forcedPlace_1, .int A_endPlace_1, .int A_wordsToFailure_1, .int A_opened_1])), (qA_ring, .inl (cA_ring, 65536, .inl A_ring_1)), (qA_buffer, .inl (cA_buffer, 200, .inl A_buffer_1)), (qO, .inl (cO, 1, .inr (.inl (vp_updL O_v (0 : Int32).toNatClampNeg r_1.toInt64))))] := hD
    refine lv_goto (tgt := 14) hx hb dL_last_8 (by decide) ?_
    refine lv_iconst (v := (0 : Int32)) hx hb dL_last_14 (by decide) ?_
    subst hQQ
    refine W.widen (k := 1) (n := 6) (Nat.le_of_ble_eq_true rfl) (Nat.le_of_ble_eq_true rfl) ?_
    exact W.iret (v := (0 : Int32)) hx hb hr (fun t ht hW => ⟨⟨(0 : Int32), (A_ring_1, A_buffer_1, A_firstPlace_1, A_forcedPlace_1, A_endPlace_1, A_wordsToFailure_1, A_opened_1, vp_updL O_v (0 : Int32).toNatClampNeg r_1.toInt64), rfl, hw, by rw [ht]; exact hP, va_K.moved hW.alike hK, hD⟩, hS.F ht⟩) hS.2.2 dL_last_15
def wp_L_lastForced (post : Int32 → St_AO → Prop) (A_ring : Nat → Int32) (A_buffer : Nat → Int32) (A_firstPlace : Int32) (A_forcedPlace : Int32) (A_endPlace : Int32) (A_wordsToFailure : Int32) (A_opened : Int32) (O_v : Nat → Int64) : Prop :=
  wp_X0_lastForced (fun r_1 u_1 => match u_1 with | (A_ring_1, A_buffer_1, A_firstPlace_1, A_forcedPlace_1, A_endPlace_1, A_wordsToFailure_1, A_opened_1) => vp_in (0 : Int32) 1 ∧ (post (0 : Int32) (A_ring_1, A_buffer_1, A_firstPlace_1, A_forcedPlace_1, A_endPlace_1, A_wordsToFailure_1, A_opened_1, vp_updL O_v (0 : Int32).toNatClampNeg r_1.toInt64))) (fun E9 u9 => match u9 with | (A_ring_x1, A_buffer_x1, A_firstPlace_x1, A_forcedPlace_x1, A_endPlace_x1, A_wordsToFailure_x1, A_opened_x1) => (E9 = "java/lang/IllegalStateException" ∧ post (1 : Int32) (A_ring_x1, A_buffer_x1, A_firstPlace_x1, A_forcedPlace_x1, A_endPlace_x1, A_wordsToFailure_x1, A_opened_x1, O_v))) A_ring A_buffer A_firstPlace A_forcedPlace A_endPlace A_wordsToFailure A_opened
set_option maxHeartbeats 4000000 in
set_option maxRecDepth 100000 in
theorem met_L_lastForced (l : Launch) (hl9 : l.stackTraces = false) (dC : Nat → ClassId) (dI : Nat → Nat → Nat) (qA qA_ring qA_buffer qO : Nat) (cA_ring cA_buffer cO : ClassId) (sz : Nat) (A_ring : Nat → Int32) (A_buffer : Nat → Int32) (A_firstPlace : Int32) (A_forcedPlace : Int32) (A_endPlace : Int32) (A_wordsToFailure : Int32) (A_opened : Int32) (O_v : Nat → Int64) (post : Int32 → St_AO → Prop) (hw : wp_L_lastForced post A_ring A_buffer A_firstPlace A_forcedPlace A_endPlace A_wordsToFailure A_opened O_v) :
    Met l yL_lastForced wsL_lastForced ({ frames := 8, cells := 1, slots := 6, locals := 136 } : Room) (pcX_AO dC dI qA qA_ring qA_buffer qO cA_ring cA_buffer cO sz A_ring A_buffer A_firstPlace A_forcedPlace A_endPlace A_wordsToFailure A_opened O_v [.ref qA, .ref qO]) (va_Qi post (at_AO dC dI (va_A [(qA, .inr (0, [.ref qA_ring, .ref qA_buffer, .int A_firstPlace, .int A_forcedPlace, .int A_endPlace, .int A_wordsToFailure, .int A_opened])), (qA_ring, .inl (cA_ring, 65536, .inl A_ring)), (qA_buffer, .inl (cA_buffer, 200, .inl A_buffer)), (qO, .inl (cO, 1, .inr (.inl O_v)))] sz) qA qA_ring qA_buffer qO cA_ring cA_buffer cO) (va_A [(qA, .inr (0, [.ref qA_ring, .ref qA_buffer, .int A_firstPlace, .int A_forcedPlace, .int A_endPlace, .int A_wordsToFailure, .int A_opened])), (qA_ring, .inl (cA_ring, 65536, .inl A_ring)), (qA_buffer, .inl (cA_buffer, 200, .inl A_buffer)), (qO, .inl (cO, 1, .inr (.inl O_v)))] sz)) 1 6 (va_A [(qA, .inr (0, [.ref qA_ring, .ref qA_buffer, .int A_firstPlace, .int A_forcedPlace, .int A_endPlace, .int A_wordsToFailure, .int A_opened])), (qA_ring, .inl (cA_ring, 65536, .inl A_ring)), (qA_buffer, .inl (cA_buffer, 200, .inl A_buffer)), (qO, .inl (cO, 1, .inr (.inl O_v)))] sz) := by
  refine va_MetW (cc := cL_lastForced) (maxL := 3) (ret := (some .int)) (by decide) rfl ?_
  intro p e s m args below meth c s₁ B hml hv
  obtain ⟨hav, hsz, hP, hK, hD0, hXW0⟩ := hv
  have hx := B.exec
  have hb := B.bytes
  have hr := B.returns
  have hts := atoms_spec (ws := wsL_lastForced) B.pre
  have hbg : ∀ w ∈ bigW, w.before args s = true := fun w h => hts w (List.mem_cons_of_mem _ h)
  have hown : s.vm.findClass RL = some m.cls := findClass_of_methodNamed B.named
  have hlocks := B.notSynchronized
  have hTab : c.exceptionTable.toList = tableOf [(0, 8, 11, 13)] := vx_table (x := yL_lastForced) B (hts _ List.mem_cons_self)
  subst hsz
  have hD := hD0.self (sz := s.heap.size)
  generalize hAe : va_A [(qA, .inr (0, [.ref qA_ring, .ref qA_buffer, .int A_firstPlace, .int A_forcedPlace, .int A_endPlace, .int A_wordsToFailure, .int A_opened])), (qA_ring, .inl (cA_ring, 65536, .inl A_ring)), (qA_buffer, .inl (cA_buffer, 200, .inl A_buffer)), (qO, .inl (cO, 1, .inr (.inl O_v)))] s.heap.size = A at hD hXW0 ⊢
  have hA : ∀ q : Nat, s.heap.size ≤ q → A q := fun q h => by rw [← hAe]; exact Or.inr h
  have hS : va_S A s.heap s.heap [] := va_S.rf
  have hP : va_P (dC, dI) vwCl [(qA, .inr (0, [.ref qA_ring, .ref qA_buffer, .int A_firstPlace, .int A_forcedPlace, .int A_endPlace, .int A_wordsToFailure, .int A_opened])), (qA_ring, .inl (cA_ring, 65536, .inl A_ring)), (qA_buffer, .inl (cA_buffer, 200, .inl A_buffer)), (qO, .inl (cO, 1, .inr (.inl O_v)))] s.heap := hP
  generalize hQQ : MQ below (va_Qi post (at_AO dC dI A qA qA_ring qA_buffer qO cA_ring cA_buffer cO) A) args s 1 6 A = QQ
  have hl := lv_entry ([.ref qA, .ref qO]) (n := 3) (Nat.le_of_ble_eq_true rfl)
  rw [show entryFrame m args 3 = entryFrame m ([.ref qA, .ref qO] : List Value).toArray 3 by rw [hav], lg_entry_eq]
  generalize (lg_sl ([.ref qA, .ref qO]) ++ List.replicate (3 - (lg_sl ([.ref qA, .ref qO])).length) Slot.unset).toArray = ls at hl ⊢
  have hl : lv_has ls 3 [(0, .ref qA), (1, .ref qO)] := hl
  unfold wp_L_lastForced at hw
  refine lv_aload_n hx hb dL_lastForced_0 rfl (lv_at hl 1 rfl) ?_
  refine lv_iconst (v := (0 : Int32)) hx hb dL_lastForced_1 (by decide) ?_
  refine lv_aload_n hx hb dL_lastForced_2 rfl (lv_at hl 0 rfl) ?_
  have hPc := hP.sub (ws' := [(qA, .inr (0, [.ref qA_ring, .ref qA_buffer, .int A_firstPlace, .int A_forcedPlace, .int A_endPlace, .int A_wordsToFailure, .int A_opened])), (qA_ring, .inl (cA_ring, 65536, .inl A_ring)), (qA_buffer, .inl (cA_buffer, 200, .inl A_buffer))]) [0, 1, 2] rfl
  have hKc := hK.sub (tys' := [(cA_ring, .int), (cA_buffer, .int)]) [0, 1] rfl
  have hDc := hD.sub (ws' := [(qA, .inr (0, [.ref qA_ring, .ref qA_buffer, .int A_firstPlace, .int A_forcedPlace, .int A_endPlace, .int A_wordsToFailure, .int A_opened])), (qA_ring, .inl (cA_ring, 65536, .inl A_ring)), (qA_buffer, .inl (cA_buffer, 200, .inl A_buffer))]) [0, 1, 2] (by decide) rfl
  have hFc := va_free (wc := [(qA, .inr (0, [.ref qA_ring, .ref qA_buffer, .int A_firstPlace, .int A_forcedPlace, .int A_endPlace, .int A_wordsToFailure, .int A_opened])), (qA_ring, .inl (cA_ring, 65536, .inl A_ring)), (qA_buffer, .inl (cA_buffer, 200, .inl A_buffer))]) hD hS hA [0, 1, 2] rfl
  refine vx_calli (vx_runV (As := []) (rest := [.int (0 : Int32), .ref qO]) ⟨hx, hb, hml, hown, hbg⟩ (met_X0_lastForced l hl9 dC dI qA qA_ring qA_buffer cA_ring cA_buffer s.heap.size A_ring A_buffer A_firstPlace A_forcedPlace A_endPlace A_wordsToFailure A_opened  _ _ hw) (cwV 0 hbg g_RL_45 rfl rfl rfl (by decide +kernel) ⟨Nat.le_of_ble_eq_true rfl, Nat.le_of_ble_eq_true rfl⟩) ⟨pcX_A_b _ _ _ _ _ _ _ _ _ _ _ _ _ _ _ _, va_recv hK hPc (ci := 0) (q0 := 0) rfl rfl, fun U hU hW => ⟨rfl, by rw [hU], by rw [hU]; exact hPc, va_K.moved hW.alike hKc, hDc.weaken (fun _ _ _ _ => trivial), XW.go hXW0 hS hFc hU hW⟩⟩ rfl rfl hl.1 rfl (lv_room (Nat.le_of_ble_eq_true rfl)) dL_lastForced_3 ⟨Nat.le_of_ble_eq_true rfl, Nat.le_of_ble_eq_true rfl⟩) hS (fun q _ h => hFc q h) hFc (fun q _ h => hFc q h) (fun E9 ce9 q9 u9 t9 H_1 locs ht hvm hpx hBX hz1 hk1 hS hce hcv hcl => ?_) (fun r_1 u_1 t_1 H_1 locs ht hvm hw hB hz1 hk1 hS => ?_)
  · obtain ⟨E8, A_ring_x1, A_buffer_x1, A_firstPlace_x1, A_forcedPlace_x1, A_endPlace_x1, A_wordsToFailure_x1, A_opened_x1⟩ := u9
    obtain ⟨rfl, hP1, hK1, hD1⟩ := hBX
    rw [ht] at hP1
    obtain ⟨hP, hD⟩ := va_join (wr := [(qO, .inl (cO, 1, .inr (.inl O_v)))]) (w1 := [(qA, .inr (0, [.ref qA_ring, .ref qA_buffer, .int A_firstPlace_x1, .int A_forcedPlace_x1, .int A_endPlace_x1, .int A_wordsToFailure_x1, .int A_opened_x1])), (qA_ring, .inl (cA_ring, 65536, .inl A_ring_x1)), (qA_buffer, .inl (cA_buffer, 200, .inl A_buffer_x1))]) hP hD [0, 1, 2] [3] rfl rfl (by decide) (by decide) hk1 hFc hP1 hD1
    have hP : va_P (dC, dI) vwCl [(qA, .inr (0, [.ref qA_ring, .ref qA_buffer, .int A_firstPlace_x1, .int A_forcedPlace_x1, .int A_endPlace_x1, .int A_wordsToFailure_x1, .int A_opened_x1])), (qA_ring, .inl (cA_ring, 65536, .inl A_ring_x1)), (qA_buffer, .inl (cA_buffer, 200, .inl A_buffer_x1)), (qO, .inl (cO, 1, .inr (.inl O_v)))] H_1 := hP.sub [1, 2, 3, 0] rfl
    have hD : va_D A [(qA, .inr (0, [.ref qA_ring, .ref qA_buffer, .int A_firstPlace_x1, .int A_forcedPlace_x1, .int A_endPlace_x1, .int A_wordsToFailure_x1, .int A_opened_x1])), (qA_ring, .inl (cA_ring, 65536, .inl A_ring_x1)), (qA_buffer, .inl (cA_buffer, 200, .inl A_buffer_x1)), (qO, .inl (cO, 1, .inr (.inl O_v)))] := hD.sub [1, 2, 3, 0] (by decide) rfl
    try dsimp only at hpx
    rcases hpx with ⟨rfl, hw⟩
    · refine vx_widen (k := 1) (n := 6) (Nat.le_of_ble_eq_true rfl) (Nat.le_of_ble_eq_true rfl) ?_
      refine vx_catch (own := RL) (name := "java/lang/IllegalStateException") (E := "java/lang/IllegalStateException") hown [] ⟨0, 8, 11, 13⟩ [] (by rw [hTab]; rfl) (fun z hz => nomatch hz) (by decide) (by decide) (hbg _ kw_186) (va_Nw.use rfl (hXW0.1 "java/lang/IllegalStateException" (by decide))) hce hcv hcl ?_
      refine lv_astore_n (lv' := [(2, .ref q9), (0, .ref qA), (1, .ref qO)]) hx hb dL_lastForced_11 rfl hl (by decide) rfl (fun ls hl => ?_)
      refine lv_iconst (v := (1 : Int32)) hx hb dL_lastForced_12 (by decide) ?_
      subst hQQ
      refine W.widen (k := 1) (n := 6) (Nat.le_of_ble_eq_true rfl) (Nat.le_of_ble_eq_true rfl) ?_
      exact W.iret (v := (1 : Int32)) hx hb hr (fun t ht hW => ⟨⟨(1 : Int32), (A_ring_x1, A_buffer_x1, A_firstPlace_x1, A_forcedPlace_x1, A_endPlace_x1, A_wordsToFailure_x1, A_opened_x1, O_v), rfl, hw, by rw [ht]; exact hP, va_K.moved hW.alike hK, hD⟩, hS.F ht⟩) hS.2.2 dL_lastForced_13
  · obtain ⟨A_ring_1, A_buffer_1, A_firstPlace_1, A_forcedPlace_1, A_endPlace_1, A_wordsToFailure_1, A_opened_1⟩ := u_1
    obtain ⟨hP1, hK1, hD1⟩ := hB
    rw [ht] at hP1
    try dsimp only at hw
    obtain ⟨hP, hD⟩ := va_join (wr := [(qO, .inl (cO, 1, .inr (.inl O_v)))]) (w1 := [(qA, .inr (0, [.ref qA_ring, .ref qA_buffer, .int A_firstPlace_1, .int A_forcedPlace_1, .int A_endPlace_1, .int A_wordsToFailure_1, .int A_opened_1])), (qA_ring, .inl (cA_ring, 65536, .inl A_ring_1)), (qA_buffer, .inl (cA_buffer, 200, .inl A_buffer_1))]) hP hD [0, 1, 2] [3] rfl rfl (by decide) (by decide) hk1 hFc hP1 hD1
    have hP : va_P (dC, dI) vwCl [(qA, .inr (0, [.ref qA_ring, .ref qA_buffer, .int A_firstPlace_1, .int A_forcedPlace_1, .int A_endPlace_1, .int A_wordsToFailure_1, .int A_opened_1])), (qA_ring, .inl (cA_ring, 65536, .inl A_ring_1)), (qA_buffer, .inl (cA_buffer, 200, .inl A_buffer_1)), (qO, .inl (cO, 1, .inr (.inl O_v)))] H_1 := hP.sub [1, 2, 3, 0] rfl
    have hD : va_D A [(qA, .inr (0, [.ref qA_ring, .ref qA_buffer, .int A_firstPlace_1, .int A_forcedPlace_1, .int A_endPlace_1, .int A_wordsToFailure_1, .int A_opened_1])), (qA_ring, .inl (cA_ring, 65536, .inl A_ring_1)), (qA_buffer, .inl (cA_buffer, 200, .inl A_buffer_1)), (qO, .inl (cO, 1, .inr (.inl O_v)))] := hD.sub [1, 2, 3, 0] (by decide) rfl
    refine W.widen (k := 1) (n := 6) (Nat.le_of_ble_eq_true rfl) (Nat.le_of_ble_eq_true rfl) ?_
    refine lv_i2l (v := r_1.toInt64) hx hb dL_lastForced_6 rfl ?_
    obtain ⟨h_2, hw⟩ := hw
    refine va_last hx hb hK hP hD hS 3 2 rfl rfl h_2 dL_lastForced_7 (fun H_3 locs hP hD hS => ?_)
    have hP : va_P (dC, dI) vwCl [(qA, .inr (0, [.ref qA_ring, .ref qA_buffer, .int A_firstPlace_1, .int A_forcedPlace_1, .int A_endPlace_1, .int A_wordsToFailure_1, .int A_opened_1])), (qA_ring, .inl (cA_ring, 65536, .inl A_ring_1)), (qA_buffer, .inl (cA_buffer, 200, .inl A_buffer_1)), (qO, .inl (cO, 1, .inr (.inl (vp_updL O_v (0 : Int32).toNatClampNeg r_1.toInt64))))] H_3 := hP
    have hD : va_D A [(qA, .inr (0, [.ref qA_ring, .ref qA_buffer, .int A_firstPlace_1, .int A_forcedPlace_1, .int A_endPlace_1, .int A_wordsToFailure_1, .int A_opened_1])), (qA_ring, .inl (cA_ring, 65536, .inl A_ring_1)), (qA_buffer, .inl (cA_buffer, 200, .inl A_buffer_1)), (qO, .inl (cO, 1, .inr (.inl (vp_updL O_v (0 : Int32).toNatClampNeg r_1.toInt64))))] := hD
    refine lv_goto (tgt := 14) hx hb dL_lastForced_8 (by decide) ?_
    refine lv_iconst (v := (0 : Int32)) hx hb dL_lastForced_14 (by decide) ?_
    subst hQQ
    refine W.widen (k := 1) (n := 6) (Nat.le_of_ble_eq_true rfl) (Nat.le_of_ble_eq_true rfl) ?_
    exact W.iret (v := (0 : Int32)) hx hb hr (fun t ht hW => ⟨⟨(0 : Int32), (A_ring_1, A_buffer_1, A_firstPlace_1, A_forcedPlace_1, A_endPlace_1, A_wordsToFailure_1, A_opened_1, vp_updL O_v (0 : Int32).toNatClampNeg r_1.toInt64), rfl, hw, by rw [ht]; exact hP, va_K.moved hW.alike hK, hD⟩, hS.F ht⟩) hS.2.2 dL_lastForced_15
def wp_L_next (post : Int32 → St_AO → Prop) (x1 : Int32) (A_ring : Nat → Int32) (A_buffer : Nat → Int32) (A_firstPlace : Int32) (A_forcedPlace : Int32) (A_endPlace : Int32) (A_wordsToFailure : Int32) (A_opened : Int32) (O_v : Nat → Int64) : Prop :=
  wp_X0_next (fun r_1 u_1 => match u_1 with | (A_ring_1, A_buffer_1, A_firstPlace_1, A_forcedPlace_1, A_endPlace_1, A_wordsToFailure_1, A_opened_1) => vp_in (0 : Int32) 1 ∧ (post (0 : Int32) (A_ring_1, A_buffer_1, A_firstPlace_1, A_forcedPlace_1, A_endPlace_1, A_wordsToFailure_1, A_opened_1, vp_updL O_v (0 : Int32).toNatClampNeg r_1.toInt64))) (fun E9 u9 => match u9 with | (A_ring_x1, A_buffer_x1, A_firstPlace_x1, A_forcedPlace_x1, A_endPlace_x1, A_wordsToFailure_x1, A_opened_x1) => (E9 = "java/lang/IllegalStateException" ∧ post (1 : Int32) (A_ring_x1, A_buffer_x1, A_firstPlace_x1, A_forcedPlace_x1, A_endPlace_x1, A_wordsToFailure_x1, A_opened_x1, O_v)) ∨ (E9 = "java/util/NoSuchElementException" ∧ post (2 : Int32) (A_ring_x1, A_buffer_x1, A_firstPlace_x1, A_forcedPlace_x1, A_endPlace_x1, A_wordsToFailure_x1, A_opened_x1, O_v))) x1 A_ring A_buffer A_firstPlace A_forcedPlace A_endPlace A_wordsToFailure A_opened
set_option maxHeartbeats 4000000 in
set_option maxRecDepth 100000 in
theorem met_L_next (l : Launch) (hl9 : l.stackTraces = false) (dC : Nat → ClassId) (dI : Nat → Nat → Nat) (qA qA_ring qA_buffer qO : Nat) (cA_ring cA_buffer cO : ClassId) (sz : Nat) (A_ring : Nat → Int32) (A_buffer : Nat → Int32) (A_firstPlace : Int32) (A_forcedPlace : Int32) (A_endPlace : Int32) (A_wordsToFailure : Int32) (A_opened : Int32) (O_v : Nat → Int64) (x1 : Int32) (post : Int32 → St_AO → Prop) (hw : wp_L_next post x1 A_ring A_buffer A_firstPlace A_forcedPlace A_endPlace A_wordsToFailure A_opened O_v) :
    Met l yL_next wsL_next ({ frames := 8, cells := 2, slots := 12, locals := 138 } : Room) (pcX_AO dC dI qA qA_ring qA_buffer qO cA_ring cA_buffer cO sz A_ring A_buffer A_firstPlace A_forcedPlace A_endPlace A_wordsToFailure A_opened O_v [.ref qA, .int x1, .ref qO]) (va_Qi post (at_AO dC dI (va_A [(qA, .inr (0, [.ref qA_ring, .ref qA_buffer, .int A_firstPlace, .int A_forcedPlace, .int A_endPlace, .int A_wordsToFailure, .int A_opened])), (qA_ring, .inl (cA_ring, 65536, .inl A_ring)), (qA_buffer, .inl (cA_buffer, 200, .inl A_buffer)), (qO, .inl (cO, 1, .inr (.inl O_v)))] sz) qA qA_ring qA_buffer qO cA_ring cA_buffer cO) (va_A [(qA, .inr (0, [.ref qA_ring, .ref qA_buffer, .int A_firstPlace, .int A_forcedPlace, .int A_endPlace, .int A_wordsToFailure, .int A_opened])), (qA_ring, .inl (cA_ring, 65536, .inl A_ring)), (qA_buffer, .inl (cA_buffer, 200, .inl A_buffer)), (qO, .inl (cO, 1, .inr (.inl O_v)))] sz)) 2 12 (va_A [(qA, .inr (0, [.ref qA_ring, .ref qA_buffer, .int A_firstPlace, .int A_forcedPlace, .int A_endPlace, .int A_wordsToFailure, .int A_opened])), (qA_ring, .inl (cA_ring, 65536, .inl A_ring)), (qA_buffer, .inl (cA_buffer, 200, .inl A_buffer)), (qO, .inl (cO, 1, .inr (.inl O_v)))] sz) := by
  refine va_MetW (cc := cL_next) (maxL := 4) (ret := (some .int)) (by decide) rfl ?_
  intro p e s m args below meth c s₁ B hml hv
  obtain ⟨hav, hsz, hP, hK, hD0, hXW0⟩ := hv
  have hx := B.exec
  have hb := B.bytes
  have hr := B.returns
  have hts := atoms_spec (ws := wsL_next) B.pre
  have hbg : ∀ w ∈ bigW, w.before args s = true := fun w h => hts w (List.mem_cons_of_mem _ h)
  have hown : s.vm.findClass RL = some m.cls := findClass_of_methodNamed B.named
  have hlocks := B.notSynchronized
  have hTab : c.exceptionTable.toList = tableOf [(0, 9, 12, 13), (0, 9, 15, 30)] := vx_table (x := yL_next) B (hts _ List.mem_cons_self)
  subst hsz
  have hD := hD0.self (sz := s.heap.size)
  generalize hAe : va_A [(qA, .inr (0, [.ref qA_ring, .ref qA_buffer, .int A_firstPlace, .int A_forcedPlace, .int A_endPlace, .int A_wordsToFailure, .int A_opened])), (qA_ring, .inl (cA_ring, 65536, .inl A_ring)), (qA_buffer, .inl (cA_buffer, 200, .inl A_buffer)), (qO, .inl (cO, 1, .inr (.inl O_v)))] s.heap.size = A at hD hXW0 ⊢
  have hA : ∀ q : Nat, s.heap.size ≤ q → A q := fun q h => by rw [← hAe]; exact Or.inr h
  have hS : va_S A s.heap s.heap [] := va_S.rf
  have hP : va_P (dC, dI) vwCl [(qA, .inr (0, [.ref qA_ring, .ref qA_buffer, .int A_firstPlace, .int A_forcedPlace, .int A_endPlace, .int A_wordsToFailure, .int A_opened])), (qA_ring, .inl (cA_ring, 65536, .inl A_ring)), (qA_buffer, .inl (cA_buffer, 200, .inl A_buffer)), (qO, .inl (cO, 1, .inr (.inl O_v)))] s.heap := hP
  generalize hQQ : MQ below (va_Qi post (at_AO dC dI A qA qA_ring qA_buffer qO cA_ring cA_buffer cO) A) args s 2 12 A = QQ
  have hl := lv_entry ([.ref qA, .int x1, .ref qO]) (n := 4) (Nat.le_of_ble_eq_true rfl)
  rw [show entryFrame m args 4 = entryFrame m ([.ref qA, .int x1, .ref qO] : List Value).toArray 4 by rw [hav], lg_entry_eq]
  generalize (lg_sl ([.ref qA, .int x1, .ref qO]) ++ List.replicate (4 - (lg_sl ([.ref qA, .int x1, .ref qO])).length) Slot.unset).toArray = ls at hl ⊢
  have hl : lv_has ls 4 [(0, .ref qA), (1, .int x1), (2, .ref qO)] := hl
  unfold wp_L_next at hw
  refine lv_aload_n hx hb dL_next_0 rfl (lv_at hl 2 rfl) ?_
  refine lv_iconst (v := (0 : Int32)) hx hb dL_next_1 (by decide) ?_
  refine lv_aload_n hx hb dL_next_2 rfl (lv_at hl 0 rfl) ?_
  refine lv_iload_n hx hb dL_next_3 rfl (lv_at hl 1 rfl) ?_
  have hPc := hP.sub (ws' := [(qA, .inr (0, [.ref qA_ring, .ref qA_buffer, .int A_firstPlace, .int A_forcedPlace, .int A_endPlace, .int A_wordsToFailure, .int A_opened])), (qA_ring, .inl (cA_ring, 65536, .inl A_ring)), (qA_buffer, .inl (cA_buffer, 200, .inl A_buffer))]) [0, 1, 2] rfl
  have hKc := hK.sub (tys' := [(cA_ring, .int), (cA_buffer, .int)]) [0, 1] rfl
  have hDc := hD.sub (ws' := [(qA, .inr (0, [.ref qA_ring, .ref qA_buffer, .int A_firstPlace, .int A_forcedPlace, .int A_endPlace, .int A_wordsToFailure, .int A_opened])), (qA_ring, .inl (cA_ring, 65536, .inl A_ring)), (qA_buffer, .inl (cA_buffer, 200, .inl A_buffer))]) [0, 1, 2] (by decide) rfl
  have hFc := va_free (wc := [(qA, .inr (0, [.ref qA_ring, .ref qA_buffer, .int A_firstPlace, .int A_forcedPlace, .int A_endPlace, .int A_wordsToFailure, .int A_opened])), (qA_ring, .inl (cA_ring, 65536, .inl A_ring)), (qA_buffer, .inl (cA_buffer, 200, .inl A_buffer))]) hD hS hA [0, 1, 2] rfl
  refine vx_calli (vx_runV (As := [.int x1]) (rest := [.int (0 : Int32), .ref qO]) ⟨hx, hb, hml, hown, hbg⟩ (met_X0_next l hl9 dC dI qA qA_ring qA_buffer cA_ring cA_buffer s.heap.size A_ring A_buffer A_firstPlace A_forcedPlace A_endPlace A_wordsToFailure A_opened x1 _ _ hw) (cwV 1 hbg g_RL_48 rfl rfl rfl (by decide +kernel) ⟨Nat.le_of_ble_eq_true rfl, Nat.le_of_ble_eq_true rfl⟩) ⟨pcX_A_b _ _ _ _ _ _ _ _ _ _ _ _ _ _ _ _, va_recv hK hPc (ci := 0) (q0 := 0) rfl rfl, fun U hU hW => ⟨rfl, by rw [hU], by rw [hU]; exact hPc, va_K.moved hW.alike hKc, hDc.weaken (fun _ _ _ _ => trivial), XW.go hXW0 hS hFc hU hW⟩⟩ rfl rfl hl.1 rfl (lv_room (Nat.le_of_ble_eq_true rfl)) dL_next_4 ⟨Nat.le_of_ble_eq_true rfl, Nat.le_of_ble_eq_true rfl⟩) hS (fun q _ h => hFc q h) hFc (fun q _ h => hFc q h) (fun E9 ce9 q9 u9 t9 H_1 locs ht hvm hpx hBX hz1 hk1 hS hce hcv hcl => ?_) (fun r_1 u_1 t_1 H_1 locs ht hvm hw hB hz1 hk1 hS => ?_)
  · obtain ⟨E8, A_ring_x1, A_buffer_x1, A_firstPlace_x1, A_forcedPlace_x1, A_endPlace_x1, A_wordsToFailure_x1, A_opened_x1⟩ := u9
    obtain ⟨rfl, hP1, hK1, hD1⟩ := hBX
    rw [ht] at hP1
    obtain ⟨hP, hD⟩ := va_join (wr := [(qO, .inl (cO, 1, .inr (.inl O_v)))]) (w1 := [(qA, .inr (0, [.ref qA_ring, .ref qA_buffer, .int A_firstPlace_x1, .int A_forcedPlace_x1, .int A_endPlace_x1, .int A_wordsToFailure_x1, .int A_opened_x1])), (qA_ring, .inl (cA_ring, 65536, .inl A_ring_x1)), (qA_buffer, .inl (cA_buffer, 200, .inl A_buffer_x1))]) hP hD [0, 1, 2] [3] rfl rfl (by decide) (by decide) hk1 hFc hP1 hD1
    have hP : va_P (dC, dI) vwCl [(qA, .inr (0, [.ref qA_ring, .ref qA_buffer, .int A_firstPlace_x1, .int A_forcedPlace_x1, .int A_endPlace_x1, .int A_wordsToFailure_x1, .int A_opened_x1])), (qA_ring, .inl (cA_ring, 65536, .inl A_ring_x1)), (qA_buffer, .inl (cA_buffer, 200, .inl A_buffer_x1)), (qO, .inl (cO, 1, .inr (.inl O_v)))] H_1 := hP.sub [1, 2, 3, 0] rfl
    have hD : va_D A [(qA, .inr (0, [.ref qA_ring, .ref qA_buffer, .int A_firstPlace_x1, .int A_forcedPlace_x1, .int A_endPlace_x1, .int A_wordsToFailure_x1, .int A_opened_x1])), (qA_ring, .inl (cA_ring, 65536, .inl A_ring_x1)), (qA_buffer, .inl (cA_buffer, 200, .inl A_buffer_x1)), (qO, .inl (cO, 1, .inr (.inl O_v)))] := hD.sub [1, 2, 3, 0] (by decide) rfl
    try dsimp only at hpx
    rcases hpx with ⟨rfl, hw⟩ | ⟨rfl, hw⟩
    · refine vx_widen (k := 2) (n := 12) (Nat.le_of_ble_eq_true rfl) (Nat.le_of_ble_eq_true rfl) ?_
      refine vx_catch (own := RL) (name := "java/lang/IllegalStateException") (E := "java/lang/IllegalStateException") hown [] ⟨0, 9, 12, 13⟩ [⟨0, 9, 15, 30⟩] (by rw [hTab]; rfl) (fun z hz => nomatch hz) (by decide) (by decide) (hbg _ kw_186) (va_Nw.use rfl (hXW0.1 "java/lang/IllegalStateException" (by decide))) hce hcv hcl ?_
      refine lv_astore_n (lv' := [(3, .ref q9), (0, .ref qA), (1, .int x1), (2, .ref qO)]) hx hb dL_next_12 rfl hl (by decide) rfl (fun ls hl => ?_)
      refine lv_iconst (v := (1 : Int32)) hx hb dL_next_13 (by decide) ?_
      subst hQQ
      refine W.widen (k := 2) (n := 12) (Nat.le_of_ble_eq_true rfl) (Nat.le_of_ble_eq_true rfl) ?_
      exact W.iret (v := (1 : Int32)) hx hb hr (fun t ht hW => ⟨⟨(1 : Int32), (A_ring_x1, A_buffer_x1, A_firstPlace_x1, A_forcedPlace_x1, A_endPlace_x1, A_wordsToFailure_x1, A_opened_x1, O_v), rfl, hw, by rw [ht]; exact hP, va_K.moved hW.alike hK, hD⟩, hS.F ht⟩) hS.2.2 dL_next_14
    · refine vx_widen (k := 2) (n := 12) (Nat.le_of_ble_eq_true rfl) (Nat.le_of_ble_eq_true rfl) ?_
      refine vx_catch (own := RL) (name := "java/util/NoSuchElementException") (E := "java/util/NoSuchElementException") hown [⟨0, 9, 12, 13⟩] ⟨0, 9, 15, 30⟩ [] (by rw [hTab]; rfl) (by
        intro z hz
        rcases List.mem_cons.mp hz with rfl | hz
        · exact Or.inr ⟨by decide, "java/lang/IllegalStateException", hbg _ kw_186, hXW0.2.2.2.1 ("java/util/NoSuchElementException", "java/lang/IllegalStateException") (by decide)⟩
        cases hz) (by decide) (by decide) (hbg _ kw_201) (va_Nw.use rfl (hXW0.1 "java/util/NoSuchElementException" (by decide))) hce hcv hcl ?_
      refine lv_astore_n (lv' := [(3, .ref q9), (0, .ref qA), (1, .int x1), (2, .ref qO)]) hx hb dL_next_15 rfl hl (by decide) rfl (fun ls hl => ?_)
      refine lv_iconst (v := (2 : Int32)) hx hb dL_next_16 (by decide) ?_
      subst hQQ
      refine W.widen (k := 2) (n := 12) (Nat.le_of_ble_eq_true rfl) (Nat.le_of_ble_eq_true rfl) ?_
      exact W.iret (v := (2 : Int32)) hx hb hr (fun t ht hW => ⟨⟨(2 : Int32), (A_ring_x1, A_buffer_x1, A_firstPlace_x1, A_forcedPlace_x1, A_endPlace_x1, A_wordsToFailure_x1, A_opened_x1, O_v), rfl, hw, by rw [ht]; exact hP, va_K.moved hW.alike hK, hD⟩, hS.F ht⟩) hS.2.2 dL_next_17
  · obtain ⟨A_ring_1, A_buffer_1, A_firstPlace_1, A_forcedPlace_1, A_endPlace_1, A_wordsToFailure_1, A_opened_1⟩ := u_1
    obtain ⟨hP1, hK1, hD1⟩ := hB
    rw [ht] at hP1
    try dsimp only at hw
    obtain ⟨hP, hD⟩ := va_join (wr := [(qO, .inl (cO, 1, .inr (.inl O_v)))]) (w1 := [(qA, .inr (0, [.ref qA_ring, .ref qA_buffer, .int A_firstPlace_1, .int A_forcedPlace_1, .int A_endPlace_1, .int A_wordsToFailure_1, .int A_opened_1])), (qA_ring, .inl (cA_ring, 65536, .inl A_ring_1)), (qA_buffer, .inl (cA_buffer, 200, .inl A_buffer_1))]) hP hD [0, 1, 2] [3] rfl rfl (by decide) (by decide) hk1 hFc hP1 hD1
    have hP : va_P (dC, dI) vwCl [(qA, .inr (0, [.ref qA_ring, .ref qA_buffer, .int A_firstPlace_1, .int A_forcedPlace_1, .int A_endPlace_1, .int A_wordsToFailure_1, .int A_opened_1])), (qA_ring, .inl (cA_ring, 65536, .inl A_ring_1)), (qA_buffer, .inl (cA_buffer, 200, .inl A_buffer_1)), (qO, .inl (cO, 1, .inr (.inl O_v)))] H_1 := hP.sub [1, 2, 3, 0] rfl
    have hD : va_D A [(qA, .inr (0, [.ref qA_ring, .ref qA_buffer, .int A_firstPlace_1, .int A_forcedPlace_1, .int A_endPlace_1, .int A_wordsToFailure_1, .int A_opened_1])), (qA_ring, .inl (cA_ring, 65536, .inl A_ring_1)), (qA_buffer, .inl (cA_buffer, 200, .inl A_buffer_1)), (qO, .inl (cO, 1, .inr (.inl O_v)))] := hD.sub [1, 2, 3, 0] (by decide) rfl
    refine W.widen (k := 2) (n := 12) (Nat.le_of_ble_eq_true rfl) (Nat.le_of_ble_eq_true rfl) ?_
    refine lv_i2l (v := r_1.toInt64) hx hb dL_next_7 rfl ?_
    obtain ⟨h_2, hw⟩ := hw
    refine va_last hx hb hK hP hD hS 3 2 rfl rfl h_2 dL_next_8 (fun H_3 locs hP hD hS => ?_)
    have hP : va_P (dC, dI) vwCl [(qA, .inr (0, [.ref qA_ring, .ref qA_buffer, .int A_firstPlace_1, .int A_forcedPlace_1, .int A_endPlace_1, .int A_wordsToFailure_1, .int A_opened_1])), (qA_ring, .inl (cA_ring, 65536, .inl A_ring_1)), (qA_buffer, .inl (cA_buffer, 200, .inl A_buffer_1)), (qO, .inl (cO, 1, .inr (.inl (vp_updL O_v (0 : Int32).toNatClampNeg r_1.toInt64))))] H_3 := hP
    have hD : va_D A [(qA, .inr (0, [.ref qA_ring, .ref qA_buffer, .int A_firstPlace_1, .int A_forcedPlace_1, .int A_endPlace_1, .int A_wordsToFailure_1, .int A_opened_1])), (qA_ring, .inl (cA_ring, 65536, .inl A_ring_1)), (qA_buffer, .inl (cA_buffer, 200, .inl A_buffer_1)), (qO, .inl (cO, 1, .inr (.inl (vp_updL O_v (0 : Int32).toNatClampNeg r_1.toInt64))))] := hD
    refine lv_goto (tgt := 18) hx hb dL_next_9 (by decide) ?_
    refine lv_iconst (v := (0 : Int32)) hx hb dL_next_18 (by decide) ?_
    subst hQQ
    refine W.widen (k := 2) (n := 12) (Nat.le_of_ble_eq_true rfl) (Nat.le_of_ble_eq_true rfl) ?_
    exact W.iret (v := (0 : Int32)) hx hb hr (fun t ht hW => ⟨⟨(0 : Int32), (A_ring_1, A_buffer_1, A_firstPlace_1, A_forcedPlace_1, A_endPlace_1, A_wordsToFailure_1, A_opened_1, vp_updL O_v (0 : Int32).toNatClampNeg r_1.toInt64), rfl, hw, by rw [ht]; exact hP, va_K.moved hW.alike hK, hD⟩, hS.F ht⟩) hS.2.2 dL_next_19
def wp_L_before (post : Int32 → St_AO → Prop) (x1 : Int32) (A_ring : Nat → Int32) (A_buffer : Nat → Int32) (A_firstPlace : Int32) (A_forcedPlace : Int32) (A_endPlace : Int32) (A_wordsToFailure : Int32) (A_opened : Int32) (O_v : Nat → Int64) : Prop :=
  wp_X0_before (fun r_1 u_1 => match u_1 with | (A_ring_1, A_buffer_1, A_firstPlace_1, A_forcedPlace_1, A_endPlace_1, A_wordsToFailure_1, A_opened_1) => vp_in (0 : Int32) 1 ∧ (post (0 : Int32) (A_ring_1, A_buffer_1, A_firstPlace_1, A_forcedPlace_1, A_endPlace_1, A_wordsToFailure_1, A_opened_1, vp_updL O_v (0 : Int32).toNatClampNeg r_1.toInt64))) (fun E9 u9 => match u9 with | (A_ring_x1, A_buffer_x1, A_firstPlace_x1, A_forcedPlace_x1, A_endPlace_x1, A_wordsToFailure_x1, A_opened_x1) => (E9 = "java/lang/IllegalStateException" ∧ post (1 : Int32) (A_ring_x1, A_buffer_x1, A_firstPlace_x1, A_forcedPlace_x1, A_endPlace_x1, A_wordsToFailure_x1, A_opened_x1, O_v)) ∨ (E9 = "java/util/NoSuchElementException" ∧ post (2 : Int32) (A_ring_x1, A_buffer_x1, A_firstPlace_x1, A_forcedPlace_x1, A_endPlace_x1, A_wordsToFailure_x1, A_opened_x1, O_v))) x1 A_ring A_buffer A_firstPlace A_forcedPlace A_endPlace A_wordsToFailure A_opened
set_option maxHeartbeats 4000000 in
set_option maxRecDepth 100000 in
theorem met_L_before (l : Launch) (hl9 : l.stackTraces = false) (dC : Nat → ClassId) (dI : Nat → Nat → Nat) (qA qA_ring qA_buffer qO : Nat) (cA_ring cA_buffer cO : ClassId) (sz : Nat) (A_ring : Nat → Int32) (A_buffer : Nat → Int32) (A_firstPlace : Int32) (A_forcedPlace : Int32) (A_endPlace : Int32) (A_wordsToFailure : Int32) (A_opened : Int32) (O_v : Nat → Int64) (x1 : Int32) (post : Int32 → St_AO → Prop) (hw : wp_L_before post x1 A_ring A_buffer A_firstPlace A_forcedPlace A_endPlace A_wordsToFailure A_opened O_v) :
    Met l yL_before wsL_before ({ frames := 8, cells := 2, slots := 12, locals := 138 } : Room) (pcX_AO dC dI qA qA_ring qA_buffer qO cA_ring cA_buffer cO sz A_ring A_buffer A_firstPlace A_forcedPlace A_endPlace A_wordsToFailure A_opened O_v [.ref qA, .int x1, .ref qO]) (va_Qi post (at_AO dC dI (va_A [(qA, .inr (0, [.ref qA_ring, .ref qA_buffer, .int A_firstPlace, .int A_forcedPlace, .int A_endPlace, .int A_wordsToFailure, .int A_opened])), (qA_ring, .inl (cA_ring, 65536, .inl A_ring)), (qA_buffer, .inl (cA_buffer, 200, .inl A_buffer)), (qO, .inl (cO, 1, .inr (.inl O_v)))] sz) qA qA_ring qA_buffer qO cA_ring cA_buffer cO) (va_A [(qA, .inr (0, [.ref qA_ring, .ref qA_buffer, .int A_firstPlace, .int A_forcedPlace, .int A_endPlace, .int A_wordsToFailure, .int A_opened])), (qA_ring, .inl (cA_ring, 65536, .inl A_ring)), (qA_buffer, .inl (cA_buffer, 200, .inl A_buffer)), (qO, .inl (cO, 1, .inr (.inl O_v)))] sz)) 2 12 (va_A [(qA, .inr (0, [.ref qA_ring, .ref qA_buffer, .int A_firstPlace, .int A_forcedPlace, .int A_endPlace, .int A_wordsToFailure, .int A_opened])), (qA_ring, .inl (cA_ring, 65536, .inl A_ring)), (qA_buffer, .inl (cA_buffer, 200, .inl A_buffer)), (qO, .inl (cO, 1, .inr (.inl O_v)))] sz) := by
  refine va_MetW (cc := cL_before) (maxL := 4) (ret := (some .int)) (by decide) rfl ?_
  intro p e s m args below meth c s₁ B hml hv
  obtain ⟨hav, hsz, hP, hK, hD0, hXW0⟩ := hv
  have hx := B.exec
  have hb := B.bytes
  have hr := B.returns
  have hts := atoms_spec (ws := wsL_before) B.pre
  have hbg : ∀ w ∈ bigW, w.before args s = true := fun w h => hts w (List.mem_cons_of_mem _ h)
  have hown : s.vm.findClass RL = some m.cls := findClass_of_methodNamed B.named
  have hlocks := B.notSynchronized
  have hTab : c.exceptionTable.toList = tableOf [(0, 9, 12, 13), (0, 9, 15, 30)] := vx_table (x := yL_before) B (hts _ List.mem_cons_self)
  subst hsz
  have hD := hD0.self (sz := s.heap.size)
  generalize hAe : va_A [(qA, .inr (0, [.ref qA_ring, .ref qA_buffer, .int A_firstPlace, .int A_forcedPlace, .int A_endPlace, .int A_wordsToFailure, .int A_opened])), (qA_ring, .inl (cA_ring, 65536, .inl A_ring)), (qA_buffer, .inl (cA_buffer, 200, .inl A_buffer)), (qO, .inl (cO, 1, .inr (.inl O_v)))] s.heap.size = A at hD hXW0 ⊢
  have hA : ∀ q : Nat, s.heap.size ≤ q → A q := fun q h => by rw [← hAe]; exact Or.inr h
  have hS : va_S A s.heap s.heap [] := va_S.rf
  have hP : va_P (dC, dI) vwCl [(qA, .inr (0, [.ref qA_ring, .ref qA_buffer, .int A_firstPlace, .int A_forcedPlace, .int A_endPlace, .int A_wordsToFailure, .int A_opened])), (qA_ring, .inl (cA_ring, 65536, .inl A_ring)), (qA_buffer, .inl (cA_buffer, 200, .inl A_buffer)), (qO, .inl (cO, 1, .inr (.inl O_v)))] s.heap := hP
  generalize hQQ : MQ below (va_Qi post (at_AO dC dI A qA qA_ring qA_buffer qO cA_ring cA_buffer cO) A) args s 2 12 A = QQ
  have hl := lv_entry ([.ref qA, .int x1, .ref qO]) (n := 4) (Nat.le_of_ble_eq_true rfl)
  rw [show entryFrame m args 4 = entryFrame m ([.ref qA, .int x1, .ref qO] : List Value).toArray 4 by rw [hav], lg_entry_eq]
  generalize (lg_sl ([.ref qA, .int x1, .ref qO]) ++ List.replicate (4 - (lg_sl ([.ref qA, .int x1, .ref qO])).length) Slot.unset).toArray = ls at hl ⊢
  have hl : lv_has ls 4 [(0, .ref qA), (1, .int x1), (2, .ref qO)] := hl
  unfold wp_L_before at hw
  refine lv_aload_n hx hb dL_before_0 rfl (lv_at hl 2 rfl) ?_
  refine lv_iconst (v := (0 : Int32)) hx hb dL_before_1 (by decide) ?_
  refine lv_aload_n hx hb dL_before_2 rfl (lv_at hl 0 rfl) ?_
  refine lv_iload_n hx hb dL_before_3 rfl (lv_at hl 1 rfl) ?_
  have hPc := hP.sub (ws' := [(qA, .inr (0, [.ref qA_ring, .ref qA_buffer, .int A_firstPlace, .int A_forcedPlace, .int A_endPlace, .int A_wordsToFailure, .int A_opened])), (qA_ring, .inl (cA_ring, 65536, .inl A_ring)), (qA_buffer, .inl (cA_buffer, 200, .inl A_buffer))]) [0, 1, 2] rfl
  have hKc := hK.sub (tys' := [(cA_ring, .int), (cA_buffer, .int)]) [0, 1] rfl
  have hDc := hD.sub (ws' := [(qA, .inr (0, [.ref qA_ring, .ref qA_buffer, .int A_firstPlace, .int A_forcedPlace, .int A_endPlace, .int A_wordsToFailure, .int A_opened])), (qA_ring, .inl (cA_ring, 65536, .inl A_ring)), (qA_buffer, .inl (cA_buffer, 200, .inl A_buffer))]) [0, 1, 2] (by decide) rfl
  have hFc := va_free (wc := [(qA, .inr (0, [.ref qA_ring, .ref qA_buffer, .int A_firstPlace, .int A_forcedPlace, .int A_endPlace, .int A_wordsToFailure, .int A_opened])), (qA_ring, .inl (cA_ring, 65536, .inl A_ring)), (qA_buffer, .inl (cA_buffer, 200, .inl A_buffer))]) hD hS hA [0, 1, 2] rfl
  refine vx_calli (vx_runV (As := [.int x1]) (rest := [.int (0 : Int32), .ref qO]) ⟨hx, hb, hml, hown, hbg⟩ (met_X0_before l hl9 dC dI qA qA_ring qA_buffer cA_ring cA_buffer s.heap.size A_ring A_buffer A_firstPlace A_forcedPlace A_endPlace A_wordsToFailure A_opened x1 _ _ hw) (cwV 1 hbg g_RL_51 rfl rfl rfl (by decide +kernel) ⟨Nat.le_of_ble_eq_true rfl, Nat.le_of_ble_eq_true rfl⟩) ⟨pcX_A_b _ _ _ _ _ _ _ _ _ _ _ _ _ _ _ _, va_recv hK hPc (ci := 0) (q0 := 0) rfl rfl, fun U hU hW => ⟨rfl, by rw [hU], by rw [hU]; exact hPc, va_K.moved hW.alike hKc, hDc.weaken (fun _ _ _ _ => trivial), XW.go hXW0 hS hFc hU hW⟩⟩ rfl rfl hl.1 rfl (lv_room (Nat.le_of_ble_eq_true rfl)) dL_before_4 ⟨Nat.le_of_ble_eq_true rfl, Nat.le_of_ble_eq_true rfl⟩) hS (fun q _ h => hFc q h) hFc (fun q _ h => hFc q h) (fun E9 ce9 q9 u9 t9 H_1 locs ht hvm hpx hBX hz1 hk1 hS hce hcv hcl => ?_) (fun r_1 u_1 t_1 H_1 locs ht hvm hw hB hz1 hk1 hS => ?_)
  · obtain ⟨E8, A_ring_x1, A_buffer_x1, A_firstPlace_x1, A_forcedPlace_x1, A_endPlace_x1, A_wordsToFailure_x1, A_opened_x1⟩ := u9
    obtain ⟨rfl, hP1, hK1, hD1⟩ := hBX
    rw [ht] at hP1
    obtain ⟨hP, hD⟩ := va_join (wr := [(qO, .inl (cO, 1, .inr (.inl O_v)))]) (w1 := [(qA, .inr (0, [.ref qA_ring, .ref qA_buffer, .int A_firstPlace_x1, .int A_forcedPlace_x1, .int A_endPlace_x1, .int A_wordsToFailure_x1, .int A_opened_x1])), (qA_ring, .inl (cA_ring, 65536, .inl A_ring_x1)), (qA_buffer, .inl (cA_buffer, 200, .inl A_buffer_x1))]) hP hD [0, 1, 2] [3] rfl rfl (by decide) (by decide) hk1 hFc hP1 hD1
    have hP : va_P (dC, dI) vwCl [(qA, .inr (0, [.ref qA_ring, .ref qA_buffer, .int A_firstPlace_x1, .int A_forcedPlace_x1, .int A_endPlace_x1, .int A_wordsToFailure_x1, .int A_opened_x1])), (qA_ring, .inl (cA_ring, 65536, .inl A_ring_x1)), (qA_buffer, .inl (cA_buffer, 200, .inl A_buffer_x1)), (qO, .inl (cO, 1, .inr (.inl O_v)))] H_1 := hP.sub [1, 2, 3, 0] rfl
    have hD : va_D A [(qA, .inr (0, [.ref qA_ring, .ref qA_buffer, .int A_firstPlace_x1, .int A_forcedPlace_x1, .int A_endPlace_x1, .int A_wordsToFailure_x1, .int A_opened_x1])), (qA_ring, .inl (cA_ring, 65536, .inl A_ring_x1)), (qA_buffer, .inl (cA_buffer, 200, .inl A_buffer_x1)), (qO, .inl (cO, 1, .inr (.inl O_v)))] := hD.sub [1, 2, 3, 0] (by decide) rfl
    try dsimp only at hpx
    rcases hpx with ⟨rfl, hw⟩ | ⟨rfl, hw⟩
    · refine vx_widen (k := 2) (n := 12) (Nat.le_of_ble_eq_true rfl) (Nat.le_of_ble_eq_true rfl) ?_
      refine vx_catch (own := RL) (name := "java/lang/IllegalStateException") (E := "java/lang/IllegalStateException") hown [] ⟨0, 9, 12, 13⟩ [⟨0, 9, 15, 30⟩] (by rw [hTab]; rfl) (fun z hz => nomatch hz) (by decide) (by decide) (hbg _ kw_186) (va_Nw.use rfl (hXW0.1 "java/lang/IllegalStateException" (by decide))) hce hcv hcl ?_
      refine lv_astore_n (lv' := [(3, .ref q9), (0, .ref qA), (1, .int x1), (2, .ref qO)]) hx hb dL_before_12 rfl hl (by decide) rfl (fun ls hl => ?_)
      refine lv_iconst (v := (1 : Int32)) hx hb dL_before_13 (by decide) ?_
      subst hQQ
      refine W.widen (k := 2) (n := 12) (Nat.le_of_ble_eq_true rfl) (Nat.le_of_ble_eq_true rfl) ?_
      exact W.iret (v := (1 : Int32)) hx hb hr (fun t ht hW => ⟨⟨(1 : Int32), (A_ring_x1, A_buffer_x1, A_firstPlace_x1, A_forcedPlace_x1, A_endPlace_x1, A_wordsToFailure_x1, A_opened_x1, O_v), rfl, hw, by rw [ht]; exact hP, va_K.moved hW.alike hK, hD⟩, hS.F ht⟩) hS.2.2 dL_before_14
    · refine vx_widen (k := 2) (n := 12) (Nat.le_of_ble_eq_true rfl) (Nat.le_of_ble_eq_true rfl) ?_
      refine vx_catch (own := RL) (name := "java/util/NoSuchElementException") (E := "java/util/NoSuchElementException") hown [⟨0, 9, 12, 13⟩] ⟨0, 9, 15, 30⟩ [] (by rw [hTab]; rfl) (by
        intro z hz
        rcases List.mem_cons.mp hz with rfl | hz
        · exact Or.inr ⟨by decide, "java/lang/IllegalStateException", hbg _ kw_186, hXW0.2.2.2.1 ("java/util/NoSuchElementException", "java/lang/IllegalStateException") (by decide)⟩
        cases hz) (by decide) (by decide) (hbg _ kw_201) (va_Nw.use rfl (hXW0.1 "java/util/NoSuchElementException" (by decide))) hce hcv hcl ?_
      refine lv_astore_n (lv' := [(3, .ref q9), (0, .ref qA), (1, .int x1), (2, .ref qO)]) hx hb dL_before_15 rfl hl (by decide) rfl (fun ls hl => ?_)
      refine lv_iconst (v := (2 : Int32)) hx hb dL_before_16 (by decide) ?_
      subst hQQ
      refine W.widen (k := 2) (n := 12) (Nat.le_of_ble_eq_true rfl) (Nat.le_of_ble_eq_true rfl) ?_
      exact W.iret (v := (2 : Int32)) hx hb hr (fun t ht hW => ⟨⟨(2 : Int32), (A_ring_x1, A_buffer_x1, A_firstPlace_x1, A_forcedPlace_x1, A_endPlace_x1, A_wordsToFailure_x1, A_opened_x1, O_v), rfl, hw, by rw [ht]; exact hP, va_K.moved hW.alike hK, hD⟩, hS.F ht⟩) hS.2.2 dL_before_17
  · obtain ⟨A_ring_1, A_buffer_1, A_firstPlace_1, A_forcedPlace_1, A_endPlace_1, A_wordsToFailure_1, A_opened_1⟩ := u_1
    obtain ⟨hP1, hK1, hD1⟩ := hB
    rw [ht] at hP1
    try dsimp only at hw
    obtain ⟨hP, hD⟩ := va_join (wr := [(qO, .inl (cO, 1, .inr (.inl O_v)))]) (w1 := [(qA, .inr (0, [.ref qA_ring, .ref qA_buffer, .int A_firstPlace_1, .int A_forcedPlace_1, .int A_endPlace_1, .int A_wordsToFailure_1, .int A_opened_1])), (qA_ring, .inl (cA_ring, 65536, .inl A_ring_1)), (qA_buffer, .inl (cA_buffer, 200, .inl A_buffer_1))]) hP hD [0, 1, 2] [3] rfl rfl (by decide) (by decide) hk1 hFc hP1 hD1
    have hP : va_P (dC, dI) vwCl [(qA, .inr (0, [.ref qA_ring, .ref qA_buffer, .int A_firstPlace_1, .int A_forcedPlace_1, .int A_endPlace_1, .int A_wordsToFailure_1, .int A_opened_1])), (qA_ring, .inl (cA_ring, 65536, .inl A_ring_1)), (qA_buffer, .inl (cA_buffer, 200, .inl A_buffer_1)), (qO, .inl (cO, 1, .inr (.inl O_v)))] H_1 := hP.sub [1, 2, 3, 0] rfl
    have hD : va_D A [(qA, .inr (0, [.ref qA_ring, .ref qA_buffer, .int A_firstPlace_1, .int A_forcedPlace_1, .int A_endPlace_1, .int A_wordsToFailure_1, .int A_opened_1])), (qA_ring, .inl (cA_ring, 65536, .inl A_ring_1)), (qA_buffer, .inl (cA_buffer, 200, .inl A_buffer_1)), (qO, .inl (cO, 1, .inr (.inl O_v)))] := hD.sub [1, 2, 3, 0] (by decide) rfl
    refine W.widen (k := 2) (n := 12) (Nat.le_of_ble_eq_true rfl) (Nat.le_of_ble_eq_true rfl) ?_
    refine lv_i2l (v := r_1.toInt64) hx hb dL_before_7 rfl ?_
    obtain ⟨h_2, hw⟩ := hw
    refine va_last hx hb hK hP hD hS 3 2 rfl rfl h_2 dL_before_8 (fun H_3 locs hP hD hS => ?_)
    have hP : va_P (dC, dI) vwCl [(qA, .inr (0, [.ref qA_ring, .ref qA_buffer, .int A_firstPlace_1, .int A_forcedPlace_1, .int A_endPlace_1, .int A_wordsToFailure_1, .int A_opened_1])), (qA_ring, .inl (cA_ring, 65536, .inl A_ring_1)), (qA_buffer, .inl (cA_buffer, 200, .inl A_buffer_1)), (qO, .inl (cO, 1, .inr (.inl (vp_updL O_v (0 : Int32).toNatClampNeg r_1.toInt64))))] H_3 := hP
    have hD : va_D A [(qA, .inr (0, [.ref qA_ring, .ref qA_buffer, .int A_firstPlace_1, .int A_forcedPlace_1, .int A_endPlace_1, .int A_wordsToFailure_1, .int A_opened_1])), (qA_ring, .inl (cA_ring, 65536, .inl A_ring_1)), (qA_buffer, .inl (cA_buffer, 200, .inl A_buffer_1)), (qO, .inl (cO, 1, .inr (.inl (vp_updL O_v (0 : Int32).toNatClampNeg r_1.toInt64))))] := hD
    refine lv_goto (tgt := 18) hx hb dL_before_9 (by decide) ?_
    refine lv_iconst (v := (0 : Int32)) hx hb dL_before_18 (by decide) ?_
    subst hQQ
    refine W.widen (k := 2) (n := 12) (Nat.le_of_ble_eq_true rfl) (Nat.le_of_ble_eq_true rfl) ?_
    exact W.iret (v := (0 : Int32)) hx hb hr (fun t ht hW => ⟨⟨(0 : Int32), (A_ring_1, A_buffer_1, A_firstPlace_1, A_forcedPlace_1, A_endPlace_1, A_wordsToFailure_1, A_opened_1, vp_updL O_v (0 : Int32).toNatClampNeg r_1.toInt64), rfl, hw, by rw [ht]; exact hP, va_K.moved hW.alike hK, hD⟩, hS.F ht⟩) hS.2.2 dL_before_19
def wp_L_lastOf (post : Int32 → St_AO → Prop) (x1 : Int32) (A_ring : Nat → Int32) (A_buffer : Nat → Int32) (A_firstPlace : Int32) (A_forcedPlace : Int32) (A_endPlace : Int32) (A_wordsToFailure : Int32) (A_opened : Int32) (O_v : Nat → Int64) : Prop :=
  wp_X0_lastOf (fun r_1 u_1 => match u_1 with | (A_ring_1, A_buffer_1, A_firstPlace_1, A_forcedPlace_1, A_endPlace_1, A_wordsToFailure_1, A_opened_1) => vp_in (0 : Int32) 1 ∧ (post (0 : Int32) (A_ring_1, A_buffer_1, A_firstPlace_1, A_forcedPlace_1, A_endPlace_1, A_wordsToFailure_1, A_opened_1, vp_updL O_v (0 : Int32).toNatClampNeg r_1.toInt64))) (fun E9 u9 => match u9 with | (A_ring_x1, A_buffer_x1, A_firstPlace_x1, A_forcedPlace_x1, A_endPlace_x1, A_wordsToFailure_x1, A_opened_x1) => (E9 = "java/lang/IllegalStateException" ∧ post (1 : Int32) (A_ring_x1, A_buffer_x1, A_firstPlace_x1, A_forcedPlace_x1, A_endPlace_x1, A_wordsToFailure_x1, A_opened_x1, O_v)) ∨ (E9 = "java/lang/IllegalArgumentException" ∧ post (2 : Int32) (A_ring_x1, A_buffer_x1, A_firstPlace_x1, A_forcedPlace_x1, A_endPlace_x1, A_wordsToFailure_x1, A_opened_x1, O_v))) x1 A_ring A_buffer A_firstPlace A_forcedPlace A_endPlace A_wordsToFailure A_opened
set_option maxHeartbeats 4000000 in
set_option maxRecDepth 100000 in
theorem met_L_lastOf (l : Launch) (hl9 : l.stackTraces = false) (dC : Nat → ClassId) (dI : Nat → Nat → Nat) (qA qA_ring qA_buffer qO : Nat) (cA_ring cA_buffer cO : ClassId) (sz : Nat) (A_ring : Nat → Int32) (A_buffer : Nat → Int32) (A_firstPlace : Int32) (A_forcedPlace : Int32) (A_endPlace : Int32) (A_wordsToFailure : Int32) (A_opened : Int32) (O_v : Nat → Int64) (x1 : Int32) (post : Int32 → St_AO → Prop) (hw : wp_L_lastOf post x1 A_ring A_buffer A_firstPlace A_forcedPlace A_endPlace A_wordsToFailure A_opened O_v) :
    Met l yL_lastOf wsL_lastOf ({ frames := 8, cells := 2, slots := 12, locals := 138 } : Room) (pcX_AO dC dI qA qA_ring qA_buffer qO cA_ring cA_buffer cO sz A_ring A_buffer A_firstPlace A_forcedPlace A_endPlace A_wordsToFailure A_opened O_v [.ref qA, .int x1, .ref qO]) (va_Qi post (at_AO dC dI (va_A [(qA, .inr (0, [.ref qA_ring, .ref qA_buffer, .int A_firstPlace, .int A_forcedPlace, .int A_endPlace, .int A_wordsToFailure, .int A_opened])), (qA_ring, .inl (cA_ring, 65536, .inl A_ring)), (qA_buffer, .inl (cA_buffer, 200, .inl A_buffer)), (qO, .inl (cO, 1, .inr (.inl O_v)))] sz) qA qA_ring qA_buffer qO cA_ring cA_buffer cO) (va_A [(qA, .inr (0, [.ref qA_ring, .ref qA_buffer, .int A_firstPlace, .int A_forcedPlace, .int A_endPlace, .int A_wordsToFailure, .int A_opened])), (qA_ring, .inl (cA_ring, 65536, .inl A_ring)), (qA_buffer, .inl (cA_buffer, 200, .inl A_buffer)), (qO, .inl (cO, 1, .inr (.inl O_v)))] sz)) 2 12 (va_A [(qA, .inr (0, [.ref qA_ring, .ref qA_buffer, .int A_firstPlace, .int A_forcedPlace, .int A_endPlace, .int A_wordsToFailure, .int A_opened])), (qA_ring, .inl (cA_ring, 65536, .inl A_ring)), (qA_buffer, .inl (cA_buffer, 200, .inl A_buffer)), (qO, .inl (cO, 1, .inr (.inl O_v)))] sz) := by
  refine va_MetW (cc := cL_lastOf) (maxL := 4) (ret := (some .int)) (by decide) rfl ?_
  intro p e s m args below meth c s₁ B hml hv
  obtain ⟨hav, hsz, hP, hK, hD0, hXW0⟩ := hv
  have hx := B.exec
  have hb := B.bytes
  have hr := B.returns
  have hts := atoms_spec (ws := wsL_lastOf) B.pre
  have hbg : ∀ w ∈ bigW, w.before args s = true := fun w h => hts w (List.mem_cons_of_mem _ h)
  have hown : s.vm.findClass RL = some m.cls := findClass_of_methodNamed B.named
  have hlocks := B.notSynchronized
  have hTab : c.exceptionTable.toList = tableOf [(0, 9, 12, 13), (0, 9, 15, 24)] := vx_table (x := yL_lastOf) B (hts _ List.mem_cons_self)
  subst hsz
  have hD := hD0.self (sz := s.heap.size)
  generalize hAe : va_A [(qA, .inr (0, [.ref qA_ring, .ref qA_buffer, .int A_firstPlace, .int A_forcedPlace, .int A_endPlace, .int A_wordsToFailure, .int A_opened])), (qA_ring, .inl (cA_ring, 65536, .inl A_ring)), (qA_buffer, .inl (cA_buffer, 200, .inl A_buffer)), (qO, .inl (cO, 1, .inr (.inl O_v)))] s.heap.size = A at hD hXW0 ⊢
  have hA : ∀ q : Nat, s.heap.size ≤ q → A q := fun q h => by rw [← hAe]; exact Or.inr h
  have hS : va_S A s.heap s.heap [] := va_S.rf
  have hP : va_P (dC, dI) vwCl [(qA, .inr (0, [.ref qA_ring, .ref qA_buffer, .int A_firstPlace, .int A_forcedPlace, .int A_endPlace, .int A_wordsToFailure, .int A_opened])), (qA_ring, .inl (cA_ring, 65536, .inl A_ring)), (qA_buffer, .inl (cA_buffer, 200, .inl A_buffer)), (qO, .inl (cO, 1, .inr (.inl O_v)))] s.heap := hP
  generalize hQQ : MQ below (va_Qi post (at_AO dC dI A qA qA_ring qA_buffer qO cA_ring cA_buffer cO) A) args s 2 12 A = QQ
  have hl := lv_entry ([.ref qA, .int x1, .ref qO]) (n := 4) (Nat.le_of_ble_eq_true rfl)
  rw [show entryFrame m args 4 = entryFrame m ([.ref qA, .int x1, .ref qO] : List Value).toArray 4 by rw [hav], lg_entry_eq]
  generalize (lg_sl ([.ref qA, .int x1, .ref qO]) ++ List.replicate (4 - (lg_sl ([.ref qA, .int x1, .ref qO])).length) Slot.unset).toArray = ls at hl ⊢
  have hl : lv_has ls 4 [(0, .ref qA), (1, .int x1), (2, .ref qO)] := hl
  unfold wp_L_lastOf at hw
  refine lv_aload_n hx hb dL_lastOf_0 rfl (lv_at hl 2 rfl) ?_
  refine lv_iconst (v := (0 : Int32)) hx hb dL_lastOf_1 (by decide) ?_
  refine lv_aload_n hx hb dL_lastOf_2 rfl (lv_at hl 0 rfl) ?_
  refine lv_iload_n hx hb dL_lastOf_3 rfl (lv_at hl 1 rfl) ?_
  have hPc := hP.sub (ws' := [(qA, .inr (0, [.ref qA_ring, .ref qA_buffer, .int A_firstPlace, .int A_forcedPlace, .int A_endPlace, .int A_wordsToFailure, .int A_opened])), (qA_ring, .inl (cA_ring, 65536, .inl A_ring)), (qA_buffer, .inl (cA_buffer, 200, .inl A_buffer))]) [0, 1, 2] rfl
  have hKc := hK.sub (tys' := [(cA_ring, .int), (cA_buffer, .int)]) [0, 1] rfl
  have hDc := hD.sub (ws' := [(qA, .inr (0, [.ref qA_ring, .ref qA_buffer, .int A_firstPlace, .int A_forcedPlace, .int A_endPlace, .int A_wordsToFailure, .int A_opened])), (qA_ring, .inl (cA_ring, 65536, .inl A_ring)), (qA_buffer, .inl (cA_buffer, 200, .inl A_buffer))]) [0, 1, 2] (by decide) rfl
  have hFc := va_free (wc := [(qA, .inr (0, [.ref qA_ring, .ref qA_buffer, .int A_firstPlace, .int A_forcedPlace, .int A_endPlace, .int A_wordsToFailure, .int A_opened])), (qA_ring, .inl (cA_ring, 65536, .inl A_ring)), (qA_buffer, .inl (cA_buffer, 200, .inl A_buffer))]) hD hS hA [0, 1, 2] rfl
  refine vx_calli (vx_runV (As := [.int x1]) (rest := [.int (0 : Int32), .ref qO]) ⟨hx, hb, hml, hown, hbg⟩ (met_X0_lastOf l hl9 dC dI qA qA_ring qA_buffer cA_ring cA_buffer s.heap.size A_ring A_buffer A_firstPlace A_forcedPlace A_endPlace A_wordsToFailure A_opened x1 _ _ hw) (cwV 1 hbg g_RL_54 rfl rfl rfl (by decide +kernel) ⟨Nat.le_of_ble_eq_true rfl, Nat.le_of_ble_eq_true rfl⟩) ⟨pcX_A_b _ _ _ _ _ _ _ _ _ _ _ _ _ _ _ _, va_recv hK hPc (ci := 0) (q0 := 0) rfl rfl, fun U hU hW => ⟨rfl, by rw [hU], by rw [hU]; exact hPc, va_K.moved hW.alike hKc, hDc.weaken (fun _ _ _ _ => trivial), XW.go hXW0 hS hFc hU hW⟩⟩ rfl rfl hl.1 rfl (lv_room (Nat.le_of_ble_eq_true rfl)) dL_lastOf_4 ⟨Nat.le_of_ble_eq_true rfl, Nat.le_of_ble_eq_true rfl⟩) hS (fun q _ h => hFc q h) hFc (fun q _ h => hFc q h) (fun E9 ce9 q9 u9 t9 H_1 locs ht hvm hpx hBX hz1 hk1 hS hce hcv hcl => ?_) (fun r_1 u_1 t_1 H_1 locs ht hvm hw hB hz1 hk1 hS => ?_)
  · obtain ⟨E8, A_ring_x1, A_buffer_x1, A_firstPlace_x1, A_forcedPlace_x1, A_endPlace_x1, A_wordsToFailure_x1, A_opened_x1⟩ := u9
    obtain ⟨rfl, hP1, hK1, hD1⟩ := hBX
    rw [ht] at hP1
    obtain ⟨hP, hD⟩ := va_join (wr := [(qO, .inl (cO, 1, .inr (.inl O_v)))]) (w1 := [(qA, .inr (0, [.ref qA_ring, .ref qA_buffer, .int A_firstPlace_x1, .int A_forcedPlace_x1, .int A_endPlace_x1, .int A_wordsToFailure_x1, .int A_opened_x1])), (qA_ring, .inl (cA_ring, 65536, .inl A_ring_x1)), (qA_buffer, .inl (cA_buffer, 200, .inl A_buffer_x1))]) hP hD [0, 1, 2] [3] rfl rfl (by decide) (by decide) hk1 hFc hP1 hD1
    have hP : va_P (dC, dI) vwCl [(qA, .inr (0, [.ref qA_ring, .ref qA_buffer, .int A_firstPlace_x1, .int A_forcedPlace_x1, .int A_endPlace_x1, .int A_wordsToFailure_x1, .int A_opened_x1])), (qA_ring, .inl (cA_ring, 65536, .inl A_ring_x1)), (qA_buffer, .inl (cA_buffer, 200, .inl A_buffer_x1)), (qO, .inl (cO, 1, .inr (.inl O_v)))] H_1 := hP.sub [1, 2, 3, 0] rfl
    have hD : va_D A [(qA, .inr (0, [.ref qA_ring, .ref qA_buffer, .int A_firstPlace_x1, .int A_forcedPlace_x1, .int A_endPlace_x1, .int A_wordsToFailure_x1, .int A_opened_x1])), (qA_ring, .inl (cA_ring, 65536, .inl A_ring_x1)), (qA_buffer, .inl (cA_buffer, 200, .inl A_buffer_x1)), (qO, .inl (cO, 1, .inr (.inl O_v)))] := hD.sub [1, 2, 3, 0] (by decide) rfl
    try dsimp only at hpx
    rcases hpx with ⟨rfl, hw⟩ | ⟨rfl, hw⟩
    · refine vx_widen (k := 2) (n := 12) (Nat.le_of_ble_eq_true rfl) (Nat.le_of_ble_eq_true rfl) ?_
      refine vx_catch (own := RL) (name := "java/lang/IllegalStateException") (E := "java/lang/IllegalStateException") hown [] ⟨0, 9, 12, 13⟩ [⟨0, 9, 15, 24⟩] (by rw [hTab]; rfl) (fun z hz => nomatch hz) (by decide) (by decide) (hbg _ kw_186) (va_Nw.use rfl (hXW0.1 "java/lang/IllegalStateException" (by decide))) hce hcv hcl ?_
      refine lv_astore_n (lv' := [(3, .ref q9), (0, .ref qA), (1, .int x1), (2, .ref qO)]) hx hb dL_lastOf_12 rfl hl (by decide) rfl (fun ls hl => ?_)
      refine lv_iconst (v := (1 : Int32)) hx hb dL_lastOf_13 (by decide) ?_
      subst hQQ
      refine W.widen (k := 2) (n := 12) (Nat.le_of_ble_eq_true rfl) (Nat.le_of_ble_eq_true rfl) ?_
      exact W.iret (v := (1 : Int32)) hx hb hr (fun t ht hW => ⟨⟨(1 : Int32), (A_ring_x1, A_buffer_x1, A_firstPlace_x1, A_forcedPlace_x1, A_endPlace_x1, A_wordsToFailure_x1, A_opened_x1, O_v), rfl, hw, by rw [ht]; exact hP, va_K.moved hW.alike hK, hD⟩, hS.F ht⟩) hS.2.2 dL_lastOf_14
    · refine vx_widen (k := 2) (n := 12) (Nat.le_of_ble_eq_true rfl) (Nat.le_of_ble_eq_true rfl) ?_
      refine vx_catch (own := RL) (name := "java/lang/IllegalArgumentException") (E := "java/lang/IllegalArgumentException") hown [⟨0, 9, 12, 13⟩] ⟨0, 9, 15, 24⟩ [] (by rw [hTab]; rfl) (by
        intro z hz
        rcases List.mem_cons.mp hz with rfl | hz
        · exact Or.inr ⟨by decide, "java/lang/IllegalStateException", hbg _ kw_186, hXW0.2.2.2.1 ("java/lang/IllegalArgumentException", "java/lang/IllegalStateException") (by decide)⟩
        cases hz) (by decide) (by decide) (hbg _ kw_196) (va_Nw.use rfl (hXW0.1 "java/lang/IllegalArgumentException" (by decide))) hce hcv hcl ?_
      refine lv_astore_n (lv' := [(3, .ref q9), (0, .ref qA), (1, .int x1), (2, .ref qO)]) hx hb dL_lastOf_15 rfl hl (by decide) rfl (fun ls hl => ?_)
      refine lv_iconst (v := (2 : Int32)) hx hb dL_lastOf_16 (by decide) ?_
      subst hQQ
      refine W.widen (k := 2) (n := 12) (Nat.le_of_ble_eq_true rfl) (Nat.le_of_ble_eq_true rfl) ?_
      exact W.iret (v := (2 : Int32)) hx hb hr (fun t ht hW => ⟨⟨(2 : Int32), (A_ring_x1, A_buffer_x1, A_firstPlace_x1, A_forcedPlace_x1, A_endPlace_x1, A_wordsToFailure_x1, A_opened_x1, O_v), rfl, hw, by rw [ht]; exact hP, va_K.moved hW.alike hK, hD⟩, hS.F ht⟩) hS.2.2 dL_lastOf_17
  · obtain ⟨A_ring_1, A_buffer_1, A_firstPlace_1, A_forcedPlace_1, A_endPlace_1, A_wordsToFailure_1, A_opened_1⟩ := u_1
    obtain ⟨hP1, hK1, hD1⟩ := hB
    rw [ht] at hP1
    try dsimp only at hw
    obtain ⟨hP, hD⟩ := va_join (wr := [(qO, .inl (cO, 1, .inr (.inl O_v)))]) (w1 := [(qA, .inr (0, [.ref qA_ring, .ref qA_buffer, .int A_firstPlace_1, .int A_forcedPlace_1, .int A_endPlace_1, .int A_wordsToFailure_1, .int A_opened_1])), (qA_ring, .inl (cA_ring, 65536, .inl A_ring_1)), (qA_buffer, .inl (cA_buffer, 200, .inl A_buffer_1))]) hP hD [0, 1, 2] [3] rfl rfl (by decide) (by decide) hk1 hFc hP1 hD1
    have hP : va_P (dC, dI) vwCl [(qA, .inr (0, [.ref qA_ring, .ref qA_buffer, .int A_firstPlace_1, .int A_forcedPlace_1, .int A_endPlace_1, .int A_wordsToFailure_1, .int A_opened_1])), (qA_ring, .inl (cA_ring, 65536, .inl A_ring_1)), (qA_buffer, .inl (cA_buffer, 200, .inl A_buffer_1)), (qO, .inl (cO, 1, .inr (.inl O_v)))] H_1 := hP.sub [1, 2, 3, 0] rfl
    have hD : va_D A [(qA, .inr (0, [.ref qA_ring, .ref qA_buffer, .int A_firstPlace_1, .int A_forcedPlace_1, .int A_endPlace_1, .int A_wordsToFailure_1, .int A_opened_1])), (qA_ring, .inl (cA_ring, 65536, .inl A_ring_1)), (qA_buffer, .inl (cA_buffer, 200, .inl A_buffer_1)), (qO, .inl (cO, 1, .inr (.inl O_v)))] := hD.sub [1, 2, 3, 0] (by decide) rfl
    refine W.widen (k := 2) (n := 12) (Nat.le_of_ble_eq_true rfl) (Nat.le_of_ble_eq_true rfl) ?_
    refine lv_i2l (v := r_1.toInt64) hx hb dL_lastOf_7 rfl ?_
    obtain ⟨h_2, hw⟩ := hw
    refine va_last hx hb hK hP hD hS 3 2 rfl rfl h_2 dL_lastOf_8 (fun H_3 locs hP hD hS => ?_)
    have hP : va_P (dC, dI) vwCl [(qA, .inr (0, [.ref qA_ring, .ref qA_buffer, .int A_firstPlace_1, .int A_forcedPlace_1, .int A_endPlace_1, .int A_wordsToFailure_1, .int A_opened_1])), (qA_ring, .inl (cA_ring, 65536, .inl A_ring_1)), (qA_buffer, .inl (cA_buffer, 200, .inl A_buffer_1)), (qO, .inl (cO, 1, .inr (.inl (vp_updL O_v (0 : Int32).toNatClampNeg r_1.toInt64))))] H_3 := hP
    have hD : va_D A [(qA, .inr (0, [.ref qA_ring, .ref qA_buffer, .int A_firstPlace_1, .int A_forcedPlace_1, .int A_endPlace_1, .int A_wordsToFailure_1, .int A_opened_1])), (qA_ring, .inl (cA_ring, 65536, .inl A_ring_1)), (qA_buffer, .inl (cA_buffer, 200, .inl A_buffer_1)), (qO, .inl (cO, 1, .inr (.inl (vp_updL O_v (0 : Int32).toNatClampNeg r_1.toInt64))))] := hD
    refine lv_goto (tgt := 18) hx hb dL_lastOf_9 (by decide) ?_
    refine lv_iconst (v := (0 : Int32)) hx hb dL_lastOf_18 (by decide) ?_
    subst hQQ
    refine W.widen (k := 2) (n := 12) (Nat.le_of_ble_eq_true rfl) (Nat.le_of_ble_eq_true rfl) ?_
    exact W.iret (v := (0 : Int32)) hx hb hr (fun t ht hW => ⟨⟨(0 : Int32), (A_ring_1, A_buffer_1, A_firstPlace_1, A_forcedPlace_1, A_endPlace_1, A_wordsToFailure_1, A_opened_1, vp_updL O_v (0 : Int32).toNatClampNeg r_1.toInt64), rfl, hw, by rw [ht]; exact hP, va_K.moved hW.alike hK, hD⟩, hS.F ht⟩) hS.2.2 dL_lastOf_19
def wp_L_of (post : Int32 → St_AO → Prop) (x1 : Int32) (x2 : Int32) (A_ring : Nat → Int32) (A_buffer : Nat → Int32) (A_firstPlace : Int32) (A_forcedPlace : Int32) (A_endPlace : Int32) (A_wordsToFailure : Int32) (A_opened : Int32) (O_v : Nat → Int64) : Prop :=
  wp_X0_of (fun r_1 u_1 => match u_1 with | (A_ring_1, A_buffer_1, A_firstPlace_1, A_forcedPlace_1, A_endPlace_1, A_wordsToFailure_1, A_opened_1) => vp_in (0 : Int32) 1 ∧ (post (0 : Int32) (A_ring_1, A_buffer_1, A_firstPlace_1, A_forcedPlace_1, A_endPlace_1, A_wordsToFailure_1, A_opened_1, vp_updL O_v (0 : Int32).toNatClampNeg r_1.toInt64))) (fun E9 u9 => match u9 with | (A_ring_x1, A_buffer_x1, A_firstPlace_x1, A_forcedPlace_x1, A_endPlace_x1, A_wordsToFailure_x1, A_opened_x1) => (E9 = "java/lang/IllegalStateException" ∧ post (1 : Int32) (A_ring_x1, A_buffer_x1, A_firstPlace_x1, A_forcedPlace_x1, A_endPlace_x1, A_wordsToFailure_x1, A_opened_x1, O_v)) ∨ (E9 = "java/util/NoSuchElementException" ∧ post (2 : Int32) (A_ring_x1, A_buffer_x1, A_firstPlace_x1, A_forcedPlace_x1, A_endPlace_x1, A_wordsToFailure_x1, A_opened_x1, O_v)) ∨ (E9 = "java/lang/IndexOutOfBoundsException" ∧ post (3 : Int32) (A_ring_x1, A_buffer_x1, A_firstPlace_x1, A_forcedPlace_x1, A_endPlace_x1, A_wordsToFailure_x1, A_opened_x1, O_v))) x1 x2 A_ring A_buffer A_firstPlace A_forcedPlace A_endPlace A_wordsToFailure A_opened
set_option maxHeartbeats 4000000 in
set_option maxRecDepth 100000 in
theorem met_L_of (l : Launch) (hl9 : l.stackTraces = false) (dC : Nat → ClassId) (dI : Nat → Nat → Nat) (qA qA_ring qA_buffer qO : Nat) (cA_ring cA_buffer cO : ClassId) (sz : Nat) (A_ring : Nat → Int32) (A_buffer : Nat → Int32) (A_firstPlace : Int32) (A_forcedPlace : Int32) (A_endPlace : Int32) (A_wordsToFailure : Int32) (A_opened : Int32) (O_v : Nat → Int64) (x1 : Int32) (x2 : Int32) (post : Int32 → St_AO → Prop) (hw : wp_L_of post x1 x2 A_ring A_buffer A_firstPlace A_forcedPlace A_endPlace A_wordsToFailure A_opened O_v) :
    Met l yL_of wsL_of ({ frames := 8, cells := 3, slots := 18, locals := 139 } : Room) (pcX_AO dC dI qA qA_ring qA_buffer qO cA_ring cA_buffer cO sz A_ring A_buffer A_firstPlace A_forcedPlace A_endPlace A_wordsToFailure A_opened O_v [.ref qA, .int x1, .int x2, .ref qO]) (va_Qi post (at_AO dC dI (va_A [(qA, .inr (0, [.ref qA_ring, .ref qA_buffer, .int A_firstPlace, .int A_forcedPlace, .int A_endPlace, .int A_wordsToFailure, .int A_opened])), (qA_ring, .inl (cA_ring, 65536, .inl A_ring)), (qA_buffer, .inl (cA_buffer, 200, .inl A_buffer)), (qO, .inl (cO, 1, .inr (.inl O_v)))] sz) qA qA_ring qA_buffer qO cA_ring cA_buffer cO) (va_A [(qA, .inr (0, [.ref qA_ring, .ref qA_buffer, .int A_firstPlace, .int A_forcedPlace, .int A_endPlace, .int A_wordsToFailure, .int A_opened])), (qA_ring, .inl (cA_ring, 65536, .inl A_ring)), (qA_buffer, .inl (cA_buffer, 200, .inl A_buffer)), (qO, .inl (cO, 1, .inr (.inl O_v)))] sz)) 3 18 (va_A [(qA, .inr (0, [.ref qA_ring, .ref qA_buffer, .int A_firstPlace, .int A_forcedPlace, .int A_endPlace, .int A_wordsToFailure, .int A_opened])), (qA_ring, .inl (cA_ring, 65536, .inl A_ring)), (qA_buffer, .inl (cA_buffer, 200, .inl A_buffer)), (qO, .inl (cO, 1, .inr (.inl O_v)))] sz) := by
  refine va_MetW (cc := cL_of) (maxL := 5) (ret := (some .int)) (by decide) rfl ?_
  intro p e s m args below meth c s₁ B hml hv
  obtain ⟨hav, hsz, hP, hK, hD0, hXW0⟩ := hv
  have hx := B.exec
  have hb := B.bytes
  have hr := B.returns
  have hts := atoms_spec (ws := wsL_of) B.pre
  have hbg : ∀ w ∈ bigW, w.before args s = true := fun w h => hts w (List.mem_cons_of_mem _ h)
  have hown : s.vm.findClass RL = some m.cls := findClass_of_methodNamed B.named
  have hlocks := B.notSynchronized
  have hTab : c.exceptionTable.toList = tableOf [(0, 10, 13, 13), (0, 10, 17, 30), (0, 10, 21, 15)] := vx_table (x := yL_of) B (hts _ List.mem_cons_self)
  subst hsz
  have hD := hD0.self (sz := s.heap.size)
  generalize hAe : va_A [(qA, .inr (0, [.ref qA_ring, .ref qA_buffer, .int A_firstPlace, .int A_forcedPlace, .int A_endPlace, .int A_wordsToFailure, .int A_opened])), (qA_ring, .inl (cA_ring, 65536, .inl A_ring)), (qA_buffer, .inl (cA_buffer, 200, .inl A_buffer)), (qO, .inl (cO, 1, .inr (.inl O_v)))] s.heap.size = A at hD hXW0 ⊢
  have hA : ∀ q : Nat, s.heap.size ≤ q → A q := fun q h => by rw [← hAe]; exact Or.inr h
  have hS : va_S A s.heap s.heap [] := va_S.rf
  have hP : va_P (dC, dI) vwCl [(qA, .inr (0, [.ref qA_ring, .ref qA_buffer, .int A_firstPlace, .int A_forcedPlace, .int A_endPlace, .int A_wordsToFailure, .int A_opened])), (qA_ring, .inl (cA_ring, 65536, .inl A_ring)), (qA_buffer, .inl (cA_buffer, 200, .inl A_buffer)), (qO, .inl (cO, 1, .inr (.inl O_v)))] s.heap := hP
  generalize hQQ : MQ below (va_Qi post (at_AO dC dI A qA qA_ring qA_buffer qO cA_ring cA_buffer cO) A) args s 3 18 A = QQ
  have hl := lv_entry ([.ref qA, .int x1, .int x2, .ref qO]) (n := 5) (Nat.le_of_ble_eq_true rfl)
  rw [show entryFrame m args 5 = entryFrame m ([.ref qA, .int x1, .int x2, .ref qO] : List Value).toArray 5 by rw [hav], lg_entry_eq]
  generalize (lg_sl ([.ref qA, .int x1, .int x2, .ref qO]) ++ List.replicate (5 - (lg_sl ([.ref qA, .int x1, .int x2, .ref qO])).length) Slot.unset).toArray = ls at hl ⊢
  have hl : lv_has ls 5 [(0, .ref qA), (1, .int x1), (2, .int x2), (3, .ref qO)] := hl
  unfold wp_L_of at hw
  refine lv_aload_n hx hb dL_of_0 rfl (lv_at hl 3 rfl) ?_
  refine lv_iconst (v := (0 : Int32)) hx hb dL_of_1 (by decide) ?_
  refine lv_aload_n hx hb dL_of_2 rfl (lv_at hl 0 rfl) ?_
  refine lv_iload_n hx hb dL_of_3 rfl (lv_at hl 1 rfl) ?_
  refine lv_iload_n hx hb dL_of_4 rfl (lv_at hl 2 rfl) ?_
  have hPc := hP.sub (ws' := [(qA, .inr (0, [.ref qA_ring, .ref qA_buffer, .int A_firstPlace, .int A_forcedPlace, .int A_endPlace, .int A_wordsToFailure, .int A_opened])), (qA_ring, .inl (cA_ring, 65536, .inl A_ring)), (qA_buffer, .inl (cA_buffer, 200, .inl A_buffer))]) [0, 1, 2] rfl
  have hKc := hK.sub (tys' := [(cA_ring, .int), (cA_buffer, .int)]) [0, 1] rfl
  have hDc := hD.sub (ws' := [(qA, .inr (0, [.ref qA_ring, .ref qA_buffer, .int A_firstPlace, .int A_forcedPlace, .int A_endPlace, .int A_wordsToFailure, .int A_opened])), (qA_ring, .inl (cA_ring, 65536, .inl A_ring)), (qA_buffer, .inl (cA_buffer, 200, .inl A_buffer))]) [0, 1, 2] (by decide) rfl
  have hFc := va_free (wc := [(qA, .inr (0, [.ref qA_ring, .ref qA_buffer, .int A_firstPlace, .int A_forcedPlace, .int A_endPlace, .int A_wordsToFailure, .int A_opened])), (qA_ring, .inl (cA_ring, 65536, .inl A_ring)), (qA_buffer, .inl (cA_buffer, 200, .inl A_buffer))]) hD hS hA [0, 1, 2] rfl
  refine vx_calli (vx_runV (As := [.int x1, .int x2]) (rest := [.int (0 : Int32), .ref qO]) ⟨hx, hb, hml, hown, hbg⟩ (met_X0_of l hl9 dC dI qA qA_ring qA_buffer cA_ring cA_buffer s.heap.size A_ring A_buffer A_firstPlace A_forcedPlace A_endPlace A_wordsToFailure A_opened x1 x2 _ _ hw) (cwV 2 hbg g_RL_57 rfl rfl rfl (by decide +kernel) ⟨Nat.le_of_ble_eq_true rfl, Nat.le_of_ble_eq_true rfl⟩) ⟨pcX_A_b _ _ _ _ _ _ _ _ _ _ _ _ _ _ _ _, va_recv hK hPc (ci := 0) (q0 := 0) rfl rfl, fun U hU hW => ⟨rfl, by rw [hU], by rw [hU]; exact hPc, va_K.moved hW.alike hKc, hDc.weaken (fun _ _ _ _ => trivial), XW.go hXW0 hS hFc hU hW⟩⟩ rfl rfl hl.1 rfl (lv_room (Nat.le_of_ble_eq_true rfl)) dL_of_5 ⟨Nat.le_of_ble_eq_true rfl, Nat.le_of_ble_eq_true rfl⟩) hS (fun q _ h => hFc q h) hFc (fun q _ h => hFc q h) (fun E9 ce9 q9 u9 t9 H_1 locs ht hvm hpx hBX hz1 hk1 hS hce hcv hcl => ?_) (fun r_1 u_1 t_1 H_1 locs ht hvm hw hB hz1 hk1 hS => ?_)
  · obtain ⟨E8, A_ring_x1, A_buffer_x1, A_firstPlace_x1, A_forcedPlace_x1, A_endPlace_x1, A_wordsToFailure_x1, A_opened_x1⟩ := u9
    obtain ⟨rfl, hP1, hK1, hD1⟩ := hBX
    rw [ht] at hP1
    obtain ⟨hP, hD⟩ := va_join (wr := [(qO, .inl (cO, 1, .inr (.inl O_v)))]) (w1 := [(qA, .inr (0, [.ref qA_ring, .ref qA_buffer, .int A_firstPlace_x1, .int A_forcedPlace_x1, .int A_endPlace_x1, .int A_wordsToFailure_x1, .int A_opened_x1])), (qA_ring, .inl (cA_ring, 65536, .inl A_ring_x1)), (qA_buffer, .inl (cA_buffer, 200, .inl A_buffer_x1))]) hP hD [0, 1, 2] [3] rfl rfl (by decide) (by decide) hk1 hFc hP1 hD1
    have hP : va_P (dC, dI) vwCl [(qA, .inr (0, [.ref qA_ring, .ref qA_buffer, .int A_firstPlace_x1, .int A_forcedPlace_x1, .int A_endPlace_x1, .int A_wordsToFailure_x1, .int A_opened_x1])), (qA_ring, .inl (cA_ring, 65536, .inl A_ring_x1)), (qA_buffer, .inl (cA_buffer, 200, .inl A_buffer_x1)), (qO, .inl (cO, 1, .inr (.inl O_v)))] H_1 := hP.sub [1, 2, 3, 0] rfl
    have hD : va_D A [(qA, .inr (0, [.ref qA_ring, .ref qA_buffer, .int A_firstPlace_x1, .int A_forcedPlace_x1, .int A_endPlace_x1, .int A_wordsToFailure_x1, .int A_opened_x1])), (qA_ring, .inl (cA_ring, 65536, .inl A_ring_x1)), (qA_buffer, .inl (cA_buffer, 200, .inl A_buffer_x1)), (qO, .inl (cO, 1, .inr (.inl O_v)))] := hD.sub [1, 2, 3, 0] (by decide) rfl
    try dsimp only at hpx
    rcases hpx with ⟨rfl, hw⟩ | ⟨rfl, hw⟩ | ⟨rfl, hw⟩
    · refine vx_widen (k := 3) (n := 18) (Nat.le_of_ble_eq_true rfl) (Nat.le_of_ble_eq_true rfl) ?_
      refine vx_catch (own := RL) (name := "java/lang/IllegalStateException") (E := "java/lang/IllegalStateException") hown [] ⟨0, 10, 13, 13⟩ [⟨0, 10, 17, 30⟩, ⟨0, 10, 21, 15⟩] (by rw [hTab]; rfl) (fun z hz => nomatch hz) (by decide) (by decide) (hbg _ kw_186) (va_Nw.use rfl (hXW0.1 "java/lang/IllegalStateException" (by decide))) hce hcv hcl ?_
      refine lv_astore (lv' := [(4, .ref q9), (0, .ref qA), (1, .int x1), (2, .int x2), (3, .ref qO)]) hx hb dL_of_13 hl (by decide) rfl (fun ls hl => ?_)
      refine lv_iconst (v := (1 : Int32)) hx hb dL_of_15 (by decide) ?_
      subst hQQ
      refine W.widen (k := 3) (n := 18) (Nat.le_of_ble_eq_true rfl) (Nat.le_of_ble_eq_true rfl) ?_
      exact W.iret (v := (1 : Int32)) hx hb hr (fun t ht hW => ⟨⟨(1 : Int32), (A_ring_x1, A_buffer_x1, A_firstPlace_x1, A_forcedPlace_x1, A_endPlace_x1, A_wordsToFailure_x1, A_opened_x1, O_v), rfl, hw, by rw [ht]; exact hP, va_K.moved hW.alike hK, hD⟩, hS.F ht⟩) hS.2.2 dL_of_16
    · refine vx_widen (k := 3) (n := 18) (Nat.le_of_ble_eq_true rfl) (Nat.le_of_ble_eq_true rfl) ?_
      refine vx_catch (own := RL) (name := "java/util/NoSuchElementException") (E := "java/util/NoSuchElementException") hown [⟨0, 10, 13, 13⟩] ⟨0, 10, 17, 30⟩ [⟨0, 10, 21, 15⟩] (by rw [hTab]; rfl) (by
        intro z hz
        rcases List.mem_cons.mp hz with rfl | hz
        · exact Or.inr ⟨by decide, "java/lang/IllegalStateException", hbg _ kw_186, hXW0.2.2.2.1 ("java/util/NoSuchElementException", "java/lang/IllegalStateException") (by decide)⟩
        cases hz) (by decide) (by decide) (hbg _ kw_201) (va_Nw.use rfl (hXW0.1 "java/util/NoSuchElementException" (by decide))) hce hcv hcl ?_
      refine lv_astore (lv' := [(4, .ref q9), (0, .ref qA), (1, .int x1), (2, .int x2), (3, .ref qO)]) hx hb dL_of_17 hl (by decide) rfl (fun ls hl => ?_)
      refine lv_iconst (v := (2 : Int32)) hx hb dL_of_19 (by decide) ?_
      subst hQQ
      refine W.widen (k := 3) (n := 18) (Nat.le_of_ble_eq_true rfl) (Nat.le_of_ble_eq_true rfl) ?_
      exact W.iret (v := (2 : Int32)) hx hb hr (fun t ht hW => ⟨⟨(2 : Int32), (A_ring_x1, A_buffer_x1, A_firstPlace_x1, A_forcedPlace_x1, A_endPlace_x1, A_wordsToFailure_x1, A_opened_x1, O_v), rfl, hw, by rw [ht]; exact hP, va_K.moved hW.alike hK, hD⟩, hS.F ht⟩) hS.2.2 dL_of_20
    · refine vx_widen (k := 3) (n := 18) (Nat.le_of_ble_eq_true rfl) (Nat.le_of_ble_eq_true rfl) ?_
      refine vx_catch (own := RL) (name := "java/lang/IndexOutOfBoundsException") (E := "java/lang/IndexOutOfBoundsException") hown [⟨0, 10, 13, 13⟩, ⟨0, 10, 17, 30⟩] ⟨0, 10, 21, 15⟩ [] (by rw [hTab]; rfl) (by
        intro z hz
        rcases List.mem_cons.mp hz with rfl | hz
        · exact Or.inr ⟨by decide, "java/lang/IllegalStateException", hbg _ kw_186, hXW0.2.2.2.1 ("java/lang/IndexOutOfBoundsException", "java/lang/IllegalStateException") (by decide)⟩
        rcases List.mem_cons.mp hz with rfl | hz
        · exact Or.inr ⟨by decide, "java/util/NoSuchElementException", hbg _ kw_201, hXW0.2.2.2.1 ("java/lang/IndexOutOfBoundsException", "java/util/NoSuchElementException") (by decide)⟩
        cases hz) (by decide) (by decide) (hbg _ kw_187) (va_Nw.use rfl (hXW0.1 "java/lang/IndexOutOfBoundsException" (by decide))) hce hcv hcl ?_
      refine lv_astore (lv' := [(4, .ref q9), (0, .ref qA), (1, .int x1), (2, .int x2), (3, .ref qO)]) hx hb dL_of_21 hl (by decide) rfl (fun ls hl => ?_)
      refine lv_iconst (v := (3 : Int32)) hx hb dL_of_23 (by decide) ?_
      subst hQQ
      refine W.widen (k := 3) (n := 18) (Nat.le_of_ble_eq_true rfl) (Nat.le_of_ble_eq_true rfl) ?_
      exact W.iret (v := (3 : Int32)) hx hb hr (fun t ht hW => ⟨⟨(3 : Int32), (A_ring_x1, A_buffer_x1, A_firstPlace_x1, A_forcedPlace_x1, A_endPlace_x1, A_wordsToFailure_x1, A_opened_x1, O_v), rfl, hw, by rw [ht]; exact hP, va_K.moved hW.alike hK, hD⟩, hS.F ht⟩) hS.2.2 dL_of_24
  · obtain ⟨A_ring_1, A_buffer_1, A_firstPlace_1, A_forcedPlace_1, A_endPlace_1, A_wordsToFailure_1, A_opened_1⟩ := u_1
    obtain ⟨hP1, hK1, hD1⟩ := hB
    rw [ht] at hP1
    try dsimp only at hw
    obtain ⟨hP, hD⟩ := va_join (wr := [(qO, .inl (cO, 1, .inr (.inl O_v)))]) (w1 := [(qA, .inr (0, [.ref qA_ring, .ref qA_buffer, .int A_firstPlace_1, .int A_forcedPlace_1, .int A_endPlace_1, .int A_wordsToFailure_1, .int A_opened_1])), (qA_ring, .inl (cA_ring, 65536, .inl A_ring_1)), (qA_buffer, .inl (cA_buffer, 200, .inl A_buffer_1))]) hP hD [0, 1, 2] [3] rfl rfl (by decide) (by decide) hk1 hFc hP1 hD1
    have hP : va_P (dC, dI) vwCl [(qA, .inr (0, [.ref qA_ring, .ref qA_buffer, .int A_firstPlace_1, .int A_forcedPlace_1, .int A_endPlace_1, .int A_wordsToFailure_1, .int A_opened_1])), (qA_ring, .inl (cA_ring, 65536, .inl A_ring_1)), (qA_buffer, .inl (cA_buffer, 200, .inl A_buffer_1)), (qO, .inl (cO, 1, .inr (.inl O_v)))] H_1 := hP.sub [1, 2, 3, 0] rfl
    have hD : va_D A [(qA, .inr (0, [.ref qA_ring, .ref qA_buffer, .int A_firstPlace_1, .int A_forcedPlace_1, .int A_endPlace_1, .int A_wordsToFailure_1, .int A_opened_1])), (qA_ring, .inl (cA_ring, 65536, .inl A_ring_1)), (qA_buffer, .inl (cA_buffer, 200, .inl A_buffer_1)), (qO, .inl (cO, 1, .inr (.inl O_v)))] := hD.sub [1, 2, 3, 0] (by decide) rfl
    refine W.widen (k := 3) (n := 18) (Nat.le_of_ble_eq_true rfl) (Nat.le_of_ble_eq_true rfl) ?_
    refine lv_i2l (v := r_1.toInt64) hx hb dL_of_8 rfl ?_
    obtain ⟨h_2, hw⟩ := hw
    refine va_last hx hb hK hP hD hS 3 2 rfl rfl h_2 dL_of_9 (fun H_3 locs hP hD hS => ?_)
    have hP : va_P (dC, dI) vwCl [(qA, .inr (0, [.ref qA_ring, .ref qA_buffer, .int A_firstPlace_1, .int A_forcedPlace_1, .int A_endPlace_1, .int A_wordsToFailure_1, .int A_opened_1])), (qA_ring, .inl (cA_ring, 65536, .inl A_ring_1)), (qA_buffer, .inl (cA_buffer, 200, .inl A_buffer_1)), (qO, .inl (cO, 1, .inr (.inl (vp_updL O_v (0 : Int32).toNatClampNeg r_1.toInt64))))] H_3 := hP
    have hD : va_D A [(qA, .inr (0, [.ref qA_ring, .ref qA_buffer, .int A_firstPlace_1, .int A_forcedPlace_1, .int A_endPlace_1, .int A_wordsToFailure_1, .int A_opened_1])), (qA_ring, .inl (cA_ring, 65536, .inl A_ring_1)), (qA_buffer, .inl (cA_buffer, 200, .inl A_buffer_1)), (qO, .inl (cO, 1, .inr (.inl (vp_updL O_v (0 : Int32).toNatClampNeg r_1.toInt64))))] := hD
    refine lv_goto (tgt := 25) hx hb dL_of_10 (by decide) ?_
    refine lv_iconst (v := (0 : Int32)) hx hb dL_of_25 (by decide) ?_
    subst hQQ
    refine W.widen (k := 3) (n := 18) (Nat.le_of_ble_eq_true rfl) (Nat.le_of_ble_eq_true rfl) ?_
    exact W.iret (v := (0 : Int32)) hx hb hr (fun t ht hW => ⟨⟨(0 : Int32), (A_ring_1, A_buffer_1, A_firstPlace_1, A_forcedPlace_1, A_endPlace_1, A_wordsToFailure_1, A_opened_1, vp_updL O_v (0 : Int32).toNatClampNeg r_1.toInt64), rfl, hw, by rw [ht]; exact hP, va_K.moved hW.alike hK, hD⟩, hS.F ht⟩) hS.2.2 dL_of_26
def wp_L_word (post : Int32 → St_AO → Prop) (x1 : Int32) (x2 : Int32) (A_ring : Nat → Int32) (A_buffer : Nat → Int32) (A_firstPlace : Int32) (A_forcedPlace : Int32) (A_endPlace : Int32) (A_wordsToFailure : Int32) (A_opened : Int32) (O_v : Nat → Int64) : Prop :=
  wp_X0_word (fun r_1 u_1 => match u_1 with | (A_ring_1, A_buffer_1, A_firstPlace_1, A_forcedPlace_1, A_endPlace_1, A_wordsToFailure_1, A_opened_1) => vp_in (0 : Int32) 1 ∧ (post (0 : Int32) (A_ring_1, A_buffer_1, A_firstPlace_1, A_forcedPlace_1, A_endPlace_1, A_wordsToFailure_1, A_opened_1, vp_updL O_v (0 : Int32).toNatClampNeg r_1.toInt64))) (fun E9 u9 => match u9 with | (A_ring_x1, A_buffer_x1, A_firstPlace_x1, A_forcedPlace_x1, A_endPlace_x1, A_wordsToFailure_x1, A_opened_x1) => (E9 = "java/lang/IllegalStateException" ∧ post (1 : Int32) (A_ring_x1, A_buffer_x1, A_firstPlace_x1, A_forcedPlace_x1, A_endPlace_x1, A_wordsToFailure_x1, A_opened_x1, O_v)) ∨ (E9 = "java/util/NoSuchElementException" ∧ post (2 : Int32) (A_ring_x1, A_buffer_x1, A_firstPlace_x1, A_forcedPlace_x1, A_endPlace_x1, A_wordsToFailure_x1, A_opened_x1, O_v)) ∨ (E9 = "java/lang/IndexOutOfBoundsException" ∧ post (3 : Int32) (A_ring_x1, A_buffer_x1, A_firstPlace_x1, A_forcedPlace_x1, A_endPlace_x1, A_wordsToFailure_x1, A_opened_x1, O_v))) x1 x2 A_ring A_buffer A_firstPlace A_forcedPlace A_endPlace A_wordsToFailure A_opened
set_option maxHeartbeats 4000000 in
set_option maxRecDepth 100000 in
theorem met_L_word (l : Launch) (hl9 : l.stackTraces = false) (dC : Nat → ClassId) (dI : Nat → Nat → Nat) (qA qA_ring qA_buffer qO : Nat) (cA_ring cA_buffer cO : ClassId) (sz : Nat) (A_ring : Nat → Int32) (A_buffer : Nat → Int32) (A_firstPlace : Int32) (A_forcedPlace : Int32) (A_endPlace : Int32) (A_wordsToFailure : Int32) (A_opened : Int32) (O_v : Nat → Int64) (x1 : Int32) (x2 : Int32) (post : Int32 → St_AO → Prop) (hw : wp_L_word post x1 x2 A_ring A_buffer A_firstPlace A_forcedPlace A_endPlace A_wordsToFailure A_opened O_v) :
    Met l yL_word wsL_word ({ frames := 8, cells := 3, slots := 18, locals := 139 } : Room) (pcX_AO dC dI qA qA_ring qA_buffer qO cA_ring cA_buffer cO sz A_ring A_buffer A_firstPlace A_forcedPlace A_endPlace A_wordsToFailure A_opened O_v [.ref qA, .int x1, .int x2, .ref qO]) (va_Qi post (at_AO dC dI (va_A [(qA, .inr (0, [.ref qA_ring, .ref qA_buffer, .int A_firstPlace, .int A_forcedPlace, .int A_endPlace, .int A_wordsToFailure, .int A_opened])), (qA_ring, .inl (cA_ring, 65536, .inl A_ring)), (qA_buffer, .inl (cA_buffer, 200, .inl A_buffer)), (qO, .inl (cO, 1, .inr (.inl O_v)))] sz) qA qA_ring qA_buffer qO cA_ring cA_buffer cO) (va_A [(qA, .inr (0, [.ref qA_ring, .ref qA_buffer, .int A_firstPlace, .int A_forcedPlace, .int A_endPlace, .int A_wordsToFailure, .int A_opened])), (qA_ring, .inl (cA_ring, 65536, .inl A_ring)), (qA_buffer, .inl (cA_buffer, 200, .inl A_buffer)), (qO, .inl (cO, 1, .inr (.inl O_v)))] sz)) 3 18 (va_A [(qA, .inr (0, [.ref qA_ring, .ref qA_buffer, .int A_firstPlace, .int A_forcedPlace, .int A_endPlace, .int A_wordsToFailure, .int A_opened])), (qA_ring, .inl (cA_ring, 65536, .inl A_ring)), (qA_buffer, .inl (cA_buffer, 200, .inl A_buffer)), (qO, .inl (cO, 1, .inr (.inl O_v)))] sz) := by
  refine va_MetW (cc := cL_word) (maxL := 5) (ret := (some .int)) (by decide) rfl ?_
  intro p e s m args below meth c s₁ B hml hv
  obtain ⟨hav, hsz, hP, hK, hD0, hXW0⟩ := hv
  have hx := B.exec
  have hb := B.bytes
  have hr := B.returns
  have hts := atoms_spec (ws := wsL_word) B.pre
  have hbg : ∀ w ∈ bigW, w.before args s = true := fun w h => hts w (List.mem_cons_of_mem _ h)
  have hown : s.vm.findClass RL = some m.cls := findClass_of_methodNamed B.named
  have hlocks := B.notSynchronized
  have hTab : c.exceptionTable.toList = tableOf [(0, 10, 13, 13), (0, 10, 17, 30), (0, 10, 21, 15)] := vx_table (x := yL_word) B (hts _ List.mem_cons_self)
  subst hsz
  have hD := hD0.self (sz := s.heap.size)
  generalize hAe : va_A [(qA, .inr (0, [.ref qA_ring, .ref qA_buffer, .int A_firstPlace, .int A_forcedPlace, .int A_endPlace, .int A_wordsToFailure, .int A_opened])), (qA_ring, .inl (cA_ring, 65536, .inl A_ring)), (qA_buffer, .inl (cA_buffer, 200, .inl A_buffer)), (qO, .inl (cO, 1, .inr (.inl O_v)))] s.heap.size = A at hD hXW0 ⊢
  have hA : ∀ q : Nat, s.heap.size ≤ q → A q := fun q h => by rw [← hAe]; exact Or.inr h
  have hS : va_S A s.heap s.heap [] := va_S.rf
  have hP : va_P (dC, dI) vwCl [(qA, .inr (0, [.ref qA_ring, .ref qA_buffer, .int A_firstPlace, .int A_forcedPlace, .int A_endPlace, .int A_wordsToFailure, .int A_opened])), (qA_ring, .inl (cA_ring, 65536, .inl A_ring)), (qA_buffer, .inl (cA_buffer, 200, .inl A_buffer)), (qO, .inl (cO, 1, .inr (.inl O_v)))] s.heap := hP
  generalize hQQ : MQ below (va_Qi post (at_AO dC dI A qA qA_ring qA_buffer qO cA_ring cA_buffer cO) A) args s 3 18 A = QQ
  have hl := lv_entry ([.ref qA, .int x1, .int x2, .ref qO]) (n := 5) (Nat.le_of_ble_eq_true rfl)
  rw [show entryFrame m args 5 = entryFrame m ([.ref qA, .int x1, .int x2, .ref qO] : List Value).toArray 5 by rw [hav], lg_entry_eq]
  generalize (lg_sl ([.ref qA, .int x1, .int x2, .ref qO]) ++ List.replicate (5 - (lg_sl ([.ref qA, .int x1, .int x2, .ref qO])).length) Slot.unset).toArray = ls at hl ⊢
  have hl : lv_has ls 5 [(0, .ref qA), (1, .int x1), (2, .int x2), (3, .ref qO)] := hl
  unfold wp_L_word at hw
  refine lv_aload_n hx hb dL_word_0 rfl (lv_at hl 3 rfl) ?_
  refine lv_iconst (v := (0 : Int32)) hx hb dL_word_1 (by decide) ?_
  refine lv_aload_n hx hb dL_word_2 rfl (lv_at hl 0 rfl) ?_
  refine lv_iload_n hx hb dL_word_3 rfl (lv_at hl 1 rfl) ?_
  refine lv_iload_n hx hb dL_word_4 rfl (lv_at hl 2 rfl) ?_
  have hPc := hP.sub (ws' := [(qA, .inr (0, [.ref qA_ring, .ref qA_buffer, .int A_firstPlace, .int A_forcedPlace, .int A_endPlace, .int A_wordsToFailure, .int A_opened])), (qA_ring, .inl (cA_ring, 65536, .inl A_ring)), (qA_buffer, .inl (cA_buffer, 200, .inl A_buffer))]) [0, 1, 2] rfl
  have hKc := hK.sub (tys' := [(cA_ring, .int), (cA_buffer, .int)]) [0, 1] rfl
  have hDc := hD.sub (ws' := [(qA, .inr (0, [.ref qA_ring, .ref qA_buffer, .int A_firstPlace, .int A_forcedPlace, .int A_endPlace, .int A_wordsToFailure, .int A_opened])), (qA_ring, .inl (cA_ring, 65536, .inl A_ring)), (qA_buffer, .inl (cA_buffer, 200, .inl A_buffer))]) [0, 1, 2] (by decide) rfl
  have hFc := va_free (wc := [(qA, .inr (0, [.ref qA_ring, .ref qA_buffer, .int A_firstPlace, .int A_forcedPlace, .int A_endPlace, .int A_wordsToFailure, .int A_opened])), (qA_ring, .inl (cA_ring, 65536, .inl A_ring)), (qA_buffer, .inl (cA_buffer, 200, .inl A_buffer))]) hD hS hA [0, 1, 2] rfl
  refine vx_calli (vx_runV (As := [.int x1, .int x2]) (rest := [.int (0 : Int32), .ref qO]) ⟨hx, hb, hml, hown, hbg⟩ (met_X0_word l hl9 dC dI qA qA_ring qA_buffer cA_ring cA_buffer s.heap.size A_ring A_buffer A_firstPlace A_forcedPlace A_endPlace A_wordsToFailure A_opened x1 x2 _ _ hw) (cwV 2 hbg g_RL_61 rfl rfl rfl (by decide +kernel) ⟨Nat.le_of_ble_eq_true rfl, Nat.le_of_ble_eq_true rfl⟩) ⟨pcX_A_b _ _ _ _ _ _ _ _ _ _ _ _ _ _ _ _, va_recv hK hPc (ci := 0) (q0 := 0) rfl rfl, fun U hU hW => ⟨rfl, by rw [hU], by rw [hU]; exact hPc, va_K.moved hW.alike hKc, hDc.weaken (fun _ _ _ _ => trivial), XW.go hXW0 hS hFc hU hW⟩⟩ rfl rfl hl.1 rfl (lv_room (Nat.le_of_ble_eq_true rfl)) dL_word_5 ⟨Nat.le_of_ble_eq_true rfl, Nat.le_of_ble_eq_true rfl⟩) hS (fun q _ h => hFc q h) hFc (fun q _ h => hFc q h) (fun E9 ce9 q9 u9 t9 H_1 locs ht hvm hpx hBX hz1 hk1 hS hce hcv hcl => ?_) (fun r_1 u_1 t_1 H_1 locs ht hvm hw hB hz1 hk1 hS => ?_)
  · obtain ⟨E8, A_ring_x1, A_buffer_x1, A_firstPlace_x1, A_forcedPlace_x1, A_endPlace_x1, A_wordsToFailure_x1, A_opened_x1⟩ := u9
    obtain ⟨rfl, hP1, hK1, hD1⟩ := hBX
    rw [ht] at hP1
    obtain ⟨hP, hD⟩ := va_join (wr := [(qO, .inl (cO, 1, .inr (.inl O_v)))]) (w1 := [(qA, .inr (0, [.ref qA_ring, .ref qA_buffer, .int A_firstPlace_x1, .int A_forcedPlace_x1, .int A_endPlace_x1, .int A_wordsToFailure_x1, .int A_opened_x1])), (qA_ring, .inl (cA_ring, 65536, .inl A_ring_x1)), (qA_buffer, .inl (cA_buffer, 200, .inl A_buffer_x1))]) hP hD [0, 1, 2] [3] rfl rfl (by decide) (by decide) hk1 hFc hP1 hD1
    have hP : va_P (dC, dI) vwCl [(qA, .inr (0, [.ref qA_ring, .ref qA_buffer, .int A_firstPlace_x1, .int A_forcedPlace_x1, .int A_endPlace_x1, .int A_wordsToFailure_x1, .int A_opened_x1])), (qA_ring, .inl (cA_ring, 65536, .inl A_ring_x1)), (qA_buffer, .inl (cA_buffer, 200, .inl A_buffer_x1)), (qO, .inl (cO, 1, .inr (.inl O_v)))] H_1 := hP.sub [1, 2, 3, 0] rfl
    have hD : va_D A [(qA, .inr (0, [.ref qA_ring, .ref qA_buffer, .int A_firstPlace_x1, .int A_forcedPlace_x1, .int A_endPlace_x1, .int A_wordsToFailure_x1, .int A_opened_x1])), (qA_ring, .inl (cA_ring, 65536, .inl A_ring_x1)), (qA_buffer, .inl (cA_buffer, 200, .inl A_buffer_x1)), (qO, .inl (cO, 1, .inr (.inl O_v)))] := hD.sub [1, 2, 3, 0] (by decide) rfl
    try dsimp only at hpx
    rcases hpx with ⟨rfl, hw⟩ | ⟨rfl, hw⟩ | ⟨rfl, hw⟩
    · refine vx_widen (k := 3) (n := 18) (Nat.le_of_ble_eq_true rfl) (Nat.le_of_ble_eq_true rfl) ?_
      refine vx_catch (own := RL) (name := "java/lang/IllegalStateException") (E := "java/lang/IllegalStateException") hown [] ⟨0, 10, 13, 13⟩ [⟨0, 10, 17, 30⟩, ⟨0, 10, 21, 15⟩] (by rw [hTab]; rfl) (fun z hz => nomatch hz) (by decide) (by decide) (hbg _ kw_186) (va_Nw.use rfl (hXW0.1 "java/lang/IllegalStateException" (by decide))) hce hcv hcl ?_
      refine lv_astore (lv' := [(4, .ref q9), (0, .ref qA), (1, .int x1), (2, .int x2), (3, .ref qO)]) hx hb dL_word_13 hl (by decide) rfl (fun ls hl => ?_)
      refine lv_iconst (v := (1 : Int32)) hx hb dL_word_15 (by decide) ?_
      subst hQQ
      refine W.widen (k := 3) (n := 18) (Nat.le_of_ble_eq_true rfl) (Nat.le_of_ble_eq_true rfl) ?_
      exact W.iret (v := (1 : Int32)) hx hb hr (fun t ht hW => ⟨⟨(1 : Int32), (A_ring_x1, A_buffer_x1, A_firstPlace_x1, A_forcedPlace_x1, A_endPlace_x1, A_wordsToFailure_x1, A_opened_x1, O_v), rfl, hw, by rw [ht]; exact hP, va_K.moved hW.alike hK, hD⟩, hS.F ht⟩) hS.2.2 dL_word_16
    · refine vx_widen (k := 3) (n := 18) (Nat.le_of_ble_eq_true rfl) (Nat.le_of_ble_eq_true rfl) ?_
      refine vx_catch (own := RL) (name := "java/util/NoSuchElementException") (E := "java/util/NoSuchElementException") hown [⟨0, 10, 13, 13⟩] ⟨0, 10, 17, 30⟩ [⟨0, 10, 21, 15⟩] (by rw [hTab]; rfl) (by
        intro z hz
        rcases List.mem_cons.mp hz with rfl | hz
        · exact Or.inr ⟨by decide, "java/lang/IllegalStateException", hbg _ kw_186, hXW0.2.2.2.1 ("java/util/NoSuchElementException", "java/lang/IllegalStateException") (by decide)⟩
        cases hz) (by decide) (by decide) (hbg _ kw_201) (va_Nw.use rfl (hXW0.1 "java/util/NoSuchElementException" (by decide))) hce hcv hcl ?_
      refine lv_astore (lv' := [(4, .ref q9), (0, .ref qA), (1, .int x1), (2, .int x2), (3, .ref qO)]) hx hb dL_word_17 hl (by decide) rfl (fun ls hl => ?_)
      refine lv_iconst (v := (2 : Int32)) hx hb dL_word_19 (by decide) ?_
      subst hQQ
      refine W.widen (k := 3) (n := 18) (Nat.le_of_ble_eq_true rfl) (Nat.le_of_ble_eq_true rfl) ?_
      exact W.iret (v := (2 : Int32)) hx hb hr (fun t ht hW => ⟨⟨(2 : Int32), (A_ring_x1, A_buffer_x1, A_firstPlace_x1, A_forcedPlace_x1, A_endPlace_x1, A_wordsToFailure_x1, A_opened_x1, O_v), rfl, hw, by rw [ht]; exact hP, va_K.moved hW.alike hK, hD⟩, hS.F ht⟩) hS.2.2 dL_word_20
    · refine vx_widen (k := 3) (n := 18) (Nat.le_of_ble_eq_true rfl) (Nat.le_of_ble_eq_true rfl) ?_
      refine vx_catch (own := RL) (name := "java/lang/IndexOutOfBoundsException") (E := "java/lang/IndexOutOfBoundsException") hown [⟨0, 10, 13, 13⟩, ⟨0, 10, 17, 30⟩] ⟨0, 10, 21, 15⟩ [] (by rw [hTab]; rfl) (by
        intro z hz
        rcases List.mem_cons.mp hz with rfl | hz
        · exact Or.inr ⟨by decide, "java/lang/IllegalStateException", hbg _ kw_186, hXW0.2.2.2.1 ("java/lang/IndexOutOfBoundsException", "java/lang/IllegalStateException") (by decide)⟩
        rcases List.mem_cons.mp hz with rfl | hz
        · exact Or.inr ⟨by decide, "java/util/NoSuchElementException", hbg _ kw_201, hXW0.2.2.2.1 ("java/lang/IndexOutOfBoundsException", "java/util/NoSuchElementException") (by decide)⟩
        cases hz) (by decide) (by decide) (hbg _ kw_187) (va_Nw.use rfl (hXW0.1 "java/lang/IndexOutOfBoundsException" (by decide))) hce hcv hcl ?_
      refine lv_astore (lv' := [(4, .ref q9), (0, .ref qA), (1, .int x1), (2, .int x2), (3, .ref qO)]) hx hb dL_word_21 hl (by decide) rfl (fun ls hl => ?_)
      refine lv_iconst (v := (3 : Int32)) hx hb dL_word_23 (by decide) ?_
      subst hQQ
      refine W.widen (k := 3) (n := 18) (Nat.le_of_ble_eq_true rfl) (Nat.le_of_ble_eq_true rfl) ?_
      exact W.iret (v := (3 : Int32)) hx hb hr (fun t ht hW => ⟨⟨(3 : Int32), (A_ring_x1, A_buffer_x1, A_firstPlace_x1, A_forcedPlace_x1, A_endPlace_x1, A_wordsToFailure_x1, A_opened_x1, O_v), rfl, hw, by rw [ht]; exact hP, va_K.moved hW.alike hK, hD⟩, hS.F ht⟩) hS.2.2 dL_word_24
  · obtain ⟨A_ring_1, A_buffer_1, A_firstPlace_1, A_forcedPlace_1, A_endPlace_1, A_wordsToFailure_1, A_opened_1⟩ := u_1
    obtain ⟨hP1, hK1, hD1⟩ := hB
    rw [ht] at hP1
    try dsimp only at hw
    obtain ⟨hP, hD⟩ := va_join (wr := [(qO, .inl (cO, 1, .inr (.inl O_v)))]) (w1 := [(qA, .inr (0, [.ref qA_ring, .ref qA_buffer, .int A_firstPlace_1, .int A_forcedPlace_1, .int A_endPlace_1, .int A_wordsToFailure_1, .int A_opened_1])), (qA_ring, .inl (cA_ring, 65536, .inl A_ring_1)), (qA_buffer, .inl (cA_buffer, 200, .inl A_buffer_1))]) hP hD [0, 1, 2] [3] rfl rfl (by decide) (by decide) hk1 hFc hP1 hD1
    have hP : va_P (dC, dI) vwCl [(qA, .inr (0, [.ref qA_ring, .ref qA_buffer, .int A_firstPlace_1, .int A_forcedPlace_1, .int A_endPlace_1, .int A_wordsToFailure_1, .int A_opened_1])), (qA_ring, .inl (cA_ring, 65536, .inl A_ring_1)), (qA_buffer, .inl (cA_buffer, 200, .inl A_buffer_1)), (qO, .inl (cO, 1, .inr (.inl O_v)))] H_1 := hP.sub [1, 2, 3, 0] rfl
    have hD : va_D A [(qA, .inr (0, [.ref qA_ring, .ref qA_buffer, .int A_firstPlace_1, .int A_forcedPlace_1, .int A_endPlace_1, .int A_wordsToFailure_1, .int A_opened_1])), (qA_ring, .inl (cA_ring, 65536, .inl A_ring_1)), (qA_buffer, .inl (cA_buffer, 200, .inl A_buffer_1)), (qO, .inl (cO, 1, .inr (.inl O_v)))] := hD.sub [1, 2, 3, 0] (by decide) rfl
    refine W.widen (k := 3) (n := 18) (Nat.le_of_ble_eq_true rfl) (Nat.le_of_ble_eq_true rfl) ?_
    refine lv_i2l (v := r_1.toInt64) hx hb dL_word_8 rfl ?_
    obtain ⟨h_2, hw⟩ := hw
    refine va_last hx hb hK hP hD hS 3 2 rfl rfl h_2 dL_word_9 (fun H_3 locs hP hD hS => ?_)
    have hP : va_P (dC, dI) vwCl [(qA, .inr (0, [.ref qA_ring, .ref qA_buffer, .int A_firstPlace_1, .int A_forcedPlace_1, .int A_endPlace_1, .int A_wordsToFailure_1, .int A_opened_1])), (qA_ring, .inl (cA_ring, 65536, .inl A_ring_1)), (qA_buffer, .inl (cA_buffer, 200, .inl A_buffer_1)), (qO, .inl (cO, 1, .inr (.inl (vp_updL O_v (0 : Int32).toNatClampNeg r_1.toInt64))))] H_3 := hP
    have hD : va_D A [(qA, .inr (0, [.ref qA_ring, .ref qA_buffer, .int A_firstPlace_1, .int A_forcedPlace_1, .int A_endPlace_1, .int A_wordsToFailure_1, .int A_opened_1])), (qA_ring, .inl (cA_ring, 65536, .inl A_ring_1)), (qA_buffer, .inl (cA_buffer, 200, .inl A_buffer_1)), (qO, .inl (cO, 1, .inr (.inl (vp_updL O_v (0 : Int32).toNatClampNeg r_1.toInt64))))] := hD
    refine lv_goto (tgt := 25) hx hb dL_word_10 (by decide) ?_
    refine lv_iconst (v := (0 : Int32)) hx hb dL_word_25 (by decide) ?_
    subst hQQ
    refine W.widen (k := 3) (n := 18) (Nat.le_of_ble_eq_true rfl) (Nat.le_of_ble_eq_true rfl) ?_
    exact W.iret (v := (0 : Int32)) hx hb hr (fun t ht hW => ⟨⟨(0 : Int32), (A_ring_1, A_buffer_1, A_firstPlace_1, A_forcedPlace_1, A_endPlace_1, A_wordsToFailure_1, A_opened_1, vp_updL O_v (0 : Int32).toNatClampNeg r_1.toInt64), rfl, hw, by rw [ht]; exact hP, va_K.moved hW.alike hK, hD⟩, hS.F ht⟩) hS.2.2 dL_word_26
def wp_L_back (post : Int32 → St_AO → Prop) (x1 : Int32) (x2 : Int32) (x3 : Int32) (A_ring : Nat → Int32) (A_buffer : Nat → Int32) (A_firstPlace : Int32) (A_forcedPlace : Int32) (A_endPlace : Int32) (A_wordsToFailure : Int32) (A_opened : Int32) (O_v : Nat → Int64) : Prop :=
  wp_X0_back (fun r_1 u_1 => match u_1 with | (A_ring_1, A_buffer_1, A_firstPlace_1, A_forcedPlace_1, A_endPlace_1, A_wordsToFailure_1, A_opened_1) => vp_in (0 : Int32) 1 ∧ (post (0 : Int32) (A_ring_1, A_buffer_1, A_firstPlace_1, A_forcedPlace_1, A_endPlace_1, A_wordsToFailure_1, A_opened_1, vp_updL O_v (0 : Int32).toNatClampNeg r_1.toInt64))) (fun E9 u9 => match u9 with | (A_ring_x1, A_buffer_x1, A_firstPlace_x1, A_forcedPlace_x1, A_endPlace_x1, A_wordsToFailure_x1, A_opened_x1) => (E9 = "java/lang/IllegalStateException" ∧ post (1 : Int32) (A_ring_x1, A_buffer_x1, A_firstPlace_x1, A_forcedPlace_x1, A_endPlace_x1, A_wordsToFailure_x1, A_opened_x1, O_v)) ∨ (E9 = "java/lang/IllegalArgumentException" ∧ post (2 : Int32) (A_ring_x1, A_buffer_x1, A_firstPlace_x1, A_forcedPlace_x1, A_endPlace_x1, A_wordsToFailure_x1, A_opened_x1, O_v))) x1 x2 x3 A_ring A_buffer A_firstPlace A_forcedPlace A_endPlace A_wordsToFailure A_opened
set_option maxHeartbeats 4000000 in
set_option maxRecDepth 100000 in
theorem met_L_back (l : Launch) (hl9 : l.stackTraces = false) (dC : Nat → ClassId) (dI : Nat → Nat → Nat) (qA qA_ring qA_buffer qO : Nat) (cA_ring cA_buffer cO : ClassId) (sz : Nat) (A_ring : Nat → Int32) (A_buffer : Nat → Int32) (A_firstPlace : Int32) (A_forcedPlace : Int32) (A_endPlace : Int32) (A_wordsToFailure : Int32) (A_opened : Int32) (O_v : Nat → Int64) (x1 : Int32) (x2 : Int32) (x3 : Int32) (post : Int32 → St_AO → Prop) (hw : wp_L_back post x1 x2 x3 A_ring A_buffer A_firstPlace A_forcedPlace A_endPlace A_wordsToFailure A_opened O_v) :
    Met l yL_back wsL_back ({ frames := 8, cells := 3, slots := 18, locals := 140 } : Room) (pcX_AO dC dI qA qA_ring qA_buffer qO cA_ring cA_buffer cO sz A_ring A_buffer A_firstPlace A_forcedPlace A_endPlace A_wordsToFailure A_opened O_v [.ref qA, .int x1, .int x2, .int x3, .ref qO]) (va_Qi post (at_AO dC dI (va_A [(qA, .inr (0, [.ref qA_ring, .ref qA_buffer, .int A_firstPlace, .int A_forcedPlace, .int A_endPlace, .int A_wordsToFailure, .int A_opened])), (qA_ring, .inl (cA_ring, 65536, .inl A_ring)), (qA_buffer, .inl (cA_buffer, 200, .inl A_buffer)), (qO, .inl (cO, 1, .inr (.inl O_v)))] sz) qA qA_ring qA_buffer qO cA_ring cA_buffer cO) (va_A [(qA, .inr (0, [.ref qA_ring, .ref qA_buffer, .int A_firstPlace, .int A_forcedPlace, .int A_endPlace, .int A_wordsToFailure, .int A_opened])), (qA_ring, .inl (cA_ring, 65536, .inl A_ring)), (qA_buffer, .inl (cA_buffer, 200, .inl A_buffer)), (qO, .inl (cO, 1, .inr (.inl O_v)))] sz)) 3 18 (va_A [(qA, .inr (0, [.ref qA_ring, .ref qA_buffer, .int A_firstPlace, .int A_forcedPlace, .int A_endPlace, .int A_wordsToFailure, .int A_opened])), (qA_ring, .inl (cA_ring, 65536, .inl A_ring)), (qA_buffer, .inl (cA_buffer, 200, .inl A_buffer)), (qO, .inl (cO, 1, .inr (.inl O_v)))] sz) := by
  refine va_MetW (cc := cL_back) (maxL := 6) (ret := (some .int)) (by decide) rfl ?_
  intro p e s m args below meth c s₁ B hml hv
  obtain ⟨hav, hsz, hP, hK, hD0, hXW0⟩ := hv
  have hx := B.exec
  have hb := B.bytes
  have hr := B.returns
  have hts := atoms_spec (ws := wsL_back) B.pre
  have hbg : ∀ w ∈ bigW, w.before args s = true := fun w h => hts w (List.mem_cons_of_mem _ h)
  have hown : s.vm.findClass RL = some m.cls := findClass_of_methodNamed B.named
  have hlocks := B.notSynchronized
  have hTab : c.exceptionTable.toList = tableOf [(0, 12, 15, 13), (0, 12, 19, 24)] := vx_table (x := yL_back) B (hts _ List.mem_cons_self)
  subst hsz
  have hD := hD0.self (sz := s.heap.size)
  generalize hAe : va_A [(qA, .inr (0, [.ref qA_ring, .ref qA_buffer, .int A_firstPlace, .int A_forcedPlace, .int A_endPlace, .int A_wordsToFailure, .int A_opened])), (qA_ring, .inl (cA_ring, 65536, .inl A_ring)), (qA_buffer, .inl (cA_buffer, 200, .inl A_buffer)), (qO, .inl (cO, 1, .inr (.inl O_v)))] s.heap.size = A at hD hXW0 ⊢
  have hA : ∀ q : Nat, s.heap.size ≤ q → A q := fun q h => by rw [← hAe]; exact Or.inr h
  have hS : va_S A s.heap s.heap [] := va_S.rf
  have hP : va_P (dC, dI) vwCl [(qA, .inr (0, [.ref qA_ring, .ref qA_buffer, .int A_firstPlace, .int A_forcedPlace, .int A_endPlace, .int A_wordsToFailure, .int A_opened])), (qA_ring, .inl (cA_ring, 65536, .inl A_ring)), (qA_buffer, .inl (cA_buffer, 200, .inl A_buffer)), (qO, .inl (cO, 1, .inr (.inl O_v)))] s.heap := hP
  generalize hQQ : MQ below (va_Qi post (at_AO dC dI A qA qA_ring qA_buffer qO cA_ring cA_buffer cO) A) args s 3 18 A = QQ
  have hl := lv_entry ([.ref qA, .int x1, .int x2, .int x3, .ref qO]) (n := 6) (Nat.le_of_ble_eq_true rfl)
  rw [show entryFrame m args 6 = entryFrame m ([.ref qA, .int x1, .int x2, .int x3, .ref qO] : List Value).toArray 6 by rw [hav], lg_entry_eq]
  generalize (lg_sl ([.ref qA, .int x1, .int x2, .int x3, .ref qO]) ++ List.replicate (6 - (lg_sl ([.ref qA, .int x1, .int x2, .int x3, .ref qO])).length) Slot.unset).toArray = ls at hl ⊢
  have hl : lv_has ls 6 [(0, .ref qA), (1, .int x1), (2, .int x2), (3, .int x3), (4, .ref qO)] := hl
  unfold wp_L_back at hw
  refine lv_aload hx hb dL_back_0 (lv_at hl 4 rfl) ?_
  refine lv_iconst (v := (0 : Int32)) hx hb dL_back_2 (by decide) ?_
  refine lv_aload_n hx hb dL_back_3 rfl (lv_at hl 0 rfl) ?_
  refine lv_iload_n hx hb dL_back_4 rfl (lv_at hl 1 rfl) ?_
  refine lv_iload_n hx hb dL_back_5 rfl (lv_at hl 2 rfl) ?_
  refine lv_iload_n hx hb dL_back_6 rfl (lv_at hl 3 rfl) ?_
  have hPc := hP.sub (ws' := [(qA, .inr (0, [.ref qA_ring, .ref qA_buffer, .int A_firstPlace, .int A_forcedPlace, .int A_endPlace, .int A_wordsToFailure, .int A_opened])), (qA_ring, .inl (cA_ring, 65536, .inl A_ring)), (qA_buffer, .inl (cA_buffer, 200, .inl A_buffer))]) [0, 1, 2] rfl
  have hKc := hK.sub (tys' := [(cA_ring, .int), (cA_buffer, .int)]) [0, 1] rfl
  have hDc := hD.sub (ws' := [(qA, .inr (0, [.ref qA_ring, .ref qA_buffer, .int A_firstPlace, .int A_forcedPlace, .int A_endPlace, .int A_wordsToFailure, .int A_opened])), (qA_ring, .inl (cA_ring, 65536, .inl A_ring)), (qA_buffer, .inl (cA_buffer, 200, .inl A_buffer))]) [0, 1, 2] (by decide) rfl
  have hFc := va_free (wc := [(qA, .inr (0, [.ref qA_ring, .ref qA_buffer, .int A_firstPlace, .int A_forcedPlace, .int A_endPlace, .int A_wordsToFailure, .int A_opened])), (qA_ring, .inl (cA_ring, 65536, .inl A_ring)), (qA_buffer, .inl (cA_buffer, 200, .inl A_buffer))]) hD hS hA [0, 1, 2] rfl
  refine vx_calli (vx_runV (As := [.int x1, .int x2, .int x3]) (rest := [.int (0 : Int32), .ref qO]) ⟨hx, hb, hml, hown, hbg⟩ (met_X0_back l hl9 dC dI qA qA_ring qA_buffer cA_ring cA_buffer s.heap.size A_ring A_buffer A_firstPlace A_forcedPlace A_endPlace A_wordsToFailure A_opened x1 x2 x3 _ _ hw) (cwV 3 hbg g_RL_64 rfl rfl rfl (by decide +kernel) ⟨Nat.le_of_ble_eq_true rfl, Nat.le_of_ble_eq_true rfl⟩) ⟨pcX_A_b _ _ _ _ _ _ _ _ _ _ _ _ _ _ _ _, va_recv hK hPc (ci := 0) (q0 := 0) rfl rfl, fun U hU hW => ⟨rfl, by rw [hU], by rw [hU]; exact hPc, va_K.moved hW.alike hKc, hDc.weaken (fun _ _ _ _ => trivial), XW.go hXW0 hS hFc hU hW⟩⟩ rfl rfl hl.1 rfl (lv_room (Nat.le_of_ble_eq_true rfl)) dL_back_7 ⟨Nat.le_of_ble_eq_true rfl, Nat.le_of_ble_eq_true rfl⟩) hS (fun q _ h => hFc q h) hFc (fun q _ h => hFc q h) (fun E9 ce9 q9 u9 t9 H_1 locs ht hvm hpx hBX hz1 hk1 hS hce hcv hcl => ?_) (fun r_1 u_1 t_1 H_1 locs ht hvm hw hB hz1 hk1 hS => ?_)
  · obtain ⟨E8, A_ring_x1, A_buffer_x1, A_firstPlace_x1, A_forcedPlace_x1, A_endPlace_x1, A_wordsToFailure_x1, A_opened_x1⟩ := u9
    obtain ⟨rfl, hP1, hK1, hD1⟩ := hBX
    rw [ht] at hP1
    obtain ⟨hP, hD⟩ := va_join (wr := [(qO, .inl (cO, 1, .inr (.inl O_v)))]) (w1 := [(qA, .inr (0, [.ref qA_ring, .ref qA_buffer, .int A_firstPlace_x1, .int A_forcedPlace_x1, .int A_endPlace_x1, .int A_wordsToFailure_x1, .int A_opened_x1])), (qA_ring, .inl (cA_ring, 65536, .inl A_ring_x1)), (qA_buffer, .inl (cA_buffer, 200, .inl A_buffer_x1))]) hP hD [0, 1, 2] [3] rfl rfl (by decide) (by decide) hk1 hFc hP1 hD1
    have hP : va_P (dC, dI) vwCl [(qA, .inr (0, [.ref qA_ring, .ref qA_buffer, .int A_firstPlace_x1, .int A_forcedPlace_x1, .int A_endPlace_x1, .int A_wordsToFailure_x1, .int A_opened_x1])), (qA_ring, .inl (cA_ring, 65536, .inl A_ring_x1)), (qA_buffer, .inl (cA_buffer, 200, .inl A_buffer_x1)), (qO, .inl (cO, 1, .inr (.inl O_v)))] H_1 := hP.sub [1, 2, 3, 0] rfl
    have hD : va_D A [(qA, .inr (0, [.ref qA_ring, .ref qA_buffer, .int A_firstPlace_x1, .int A_forcedPlace_x1, .int A_endPlace_x1, .int A_wordsToFailure_x1, .int A_opened_x1])), (qA_ring, .inl (cA_ring, 65536, .inl A_ring_x1)), (qA_buffer, .inl (cA_buffer, 200, .inl A_buffer_x1)), (qO, .inl (cO, 1, .inr (.inl O_v)))] := hD.sub [1, 2, 3, 0] (by decide) rfl
    try dsimp only at hpx
    rcases hpx with ⟨rfl, hw⟩ | ⟨rfl, hw⟩
    · refine vx_widen (k := 3) (n := 18) (Nat.le_of_ble_eq_true rfl) (Nat.le_of_ble_eq_true rfl) ?_
      refine vx_catch (own := RL) (name := "java/lang/IllegalStateException") (E := "java/lang/IllegalStateException") hown [] ⟨0, 12, 15, 13⟩ [⟨0, 12, 19, 24⟩] (by rw [hTab]; rfl) (fun z hz => nomatch hz) (by decide) (by decide) (hbg _ kw_186) (va_Nw.use rfl (hXW0.1 "java/lang/IllegalStateException" (by decide))) hce hcv hcl ?_
      refine lv_astore (lv' := [(5, .ref q9), (0, .ref qA), (1, .int x1), (2, .int x2), (3, .int x3), (4, .ref qO)]) hx hb dL_back_15 hl (by decide) rfl (fun ls hl => ?_)
      refine lv_iconst (v := (1 : Int32)) hx hb dL_back_17 (by decide) ?_
      subst hQQ
      refine W.widen (k := 3) (n := 18) (Nat.le_of_ble_eq_true rfl) (Nat.le_of_ble_eq_true rfl) ?_
      exact W.iret (v := (1 : Int32)) hx hb hr (fun t ht hW => ⟨⟨(1 : Int32), (A_ring_x1, A_buffer_x1, A_firstPlace_x1, A_forcedPlace_x1, A_endPlace_x1, A_wordsToFailure_x1, A_opened_x1, O_v), rfl, hw, by rw [ht]; exact hP, va_K.moved hW.alike hK, hD⟩, hS.F ht⟩) hS.2.2 dL_back_18
    · refine vx_widen (k := 3) (n := 18) (Nat.le_of_ble_eq_true rfl) (Nat.le_of_ble_eq_true rfl) ?_
      refine vx_catch (own := RL) (name := "java/lang/IllegalArgumentException") (E := "java/lang/IllegalArgumentException") hown [⟨0, 12, 15, 13⟩] ⟨0, 12, 19, 24⟩ [] (by rw [hTab]; rfl) (by
        intro z hz
        rcases List.mem_cons.mp hz with rfl | hz
        · exact Or.inr ⟨by decide, "java/lang/IllegalStateException", hbg _ kw_186, hXW0.2.2.2.1 ("java/lang/IllegalArgumentException", "java/lang/IllegalStateException") (by decide)⟩
        cases hz) (by decide) (by decide) (hbg _ kw_196) (va_Nw.use rfl (hXW0.1 "java/lang/IllegalArgumentException" (by decide))) hce hcv hcl ?_
      refine lv_astore (lv' := [(5, .ref q9), (0, .ref qA), (1, .int x1), (2, .int x2), (3, .int x3), (4, .ref qO)]) hx hb dL_back_19 hl (by decide) rfl (fun ls hl => ?_)
      refine lv_iconst (v := (2 : Int32)) hx hb dL_back_21 (by decide) ?_
      subst hQQ
      refine W.widen (k := 3) (n := 18) (Nat.le_of_ble_eq_true rfl) (Nat.le_of_ble_eq_true rfl) ?_
      exact W.iret (v := (2 : Int32)) hx hb hr (fun t ht hW => ⟨⟨(2 : Int32), (A_ring_x1, A_buffer_x1, A_firstPlace_x1, A_forcedPlace_x1, A_endPlace_x1, A_wordsToFailure_x1, A_opened_x1, O_v), rfl, hw, by rw [ht]; exact hP, va_K.moved hW.alike hK, hD⟩, hS.F ht⟩) hS.2.2 dL_back_22
  · obtain ⟨A_ring_1, A_buffer_1, A_firstPlace_1, A_forcedPlace_1, A_endPlace_1, A_wordsToFailure_1, A_opened_1⟩ := u_1
    obtain ⟨hP1, hK1, hD1⟩ := hB
    rw [ht] at hP1
    try dsimp only at hw
    obtain ⟨hP, hD⟩ := va_join (wr := [(qO, .inl (cO, 1, .inr (.inl O_v)))]) (w1 := [(qA, .inr (0, [.ref qA_ring, .ref qA_buffer, .int A_firstPlace_1, .int A_forcedPlace_1, .int A_endPlace_1, .int A_wordsToFailure_1, .int A_opened_1])), (qA_ring, .inl (cA_ring, 65536, .inl A_ring_1)), (qA_buffer, .inl (cA_buffer, 200, .inl A_buffer_1))]) hP hD [0, 1, 2] [3] rfl rfl (by decide) (by decide) hk1 hFc hP1 hD1
    have hP : va_P (dC, dI) vwCl [(qA, .inr (0, [.ref qA_ring, .ref qA_buffer, .int A_firstPlace_1, .int A_forcedPlace_1, .int A_endPlace_1, .int A_wordsToFailure_1, .int A_opened_1])), (qA_ring, .inl (cA_ring, 65536, .inl A_ring_1)), (qA_buffer, .inl (cA_buffer, 200, .inl A_buffer_1)), (qO, .inl (cO, 1, .inr (.inl O_v)))] H_1 := hP.sub [1, 2, 3, 0] rfl
    have hD : va_D A [(qA, .inr (0, [.ref qA_ring, .ref qA_buffer, .int A_firstPlace_1, .int A_forcedPlace_1, .int A_endPlace_1, .int A_wordsToFailure_1, .int A_opened_1])), (qA_ring, .inl (cA_ring, 65536, .inl A_ring_1)), (qA_buffer, .inl (cA_buffer, 200, .inl A_buffer_1)), (qO, .inl (cO, 1, .inr (.inl O_v)))] := hD.sub [1, 2, 3, 0] (by decide) rfl
    refine W.widen (k := 3) (n := 18) (Nat.le_of_ble_eq_true rfl) (Nat.le_of_ble_eq_true rfl) ?_
    refine lv_i2l (v := r_1.toInt64) hx hb dL_back_10 rfl ?_
    obtain ⟨h_2, hw⟩ := hw
    refine va_last hx hb hK hP hD hS 3 2 rfl rfl h_2 dL_back_11 (fun H_3 locs hP hD hS => ?_)
    have hP : va_P (dC, dI) vwCl [(qA, .inr (0, [.ref qA_ring, .ref qA_buffer, .int A_firstPlace_1, .int A_forcedPlace_1, .int A_endPlace_1, .int A_wordsToFailure_1, .int A_opened_1])), (qA_ring, .inl (cA_ring, 65536, .inl A_ring_1)), (qA_buffer, .inl (cA_buffer, 200, .inl A_buffer_1)), (qO, .inl (cO, 1, .inr (.inl (vp_updL O_v (0 : Int32).toNatClampNeg r_1.toInt64))))] H_3 := hP
    have hD : va_D A [(qA, .inr (0, [.ref qA_ring, .ref qA_buffer, .int A_firstPlace_1, .int A_forcedPlace_1, .int A_endPlace_1, .int A_wordsToFailure_1, .int A_opened_1])), (qA_ring, .inl (cA_ring, 65536, .inl A_ring_1)), (qA_buffer, .inl (cA_buffer, 200, .inl A_buffer_1)), (qO, .inl (cO, 1, .inr (.inl (vp_updL O_v (0 : Int32).toNatClampNeg r_1.toInt64))))] := hD
    refine lv_goto (tgt := 23) hx hb dL_back_12 (by decide) ?_
    refine lv_iconst (v := (0 : Int32)) hx hb dL_back_23 (by decide) ?_
    subst hQQ
    refine W.widen (k := 3) (n := 18) (Nat.le_of_ble_eq_true rfl) (Nat.le_of_ble_eq_true rfl) ?_
    exact W.iret (v := (0 : Int32)) hx hb hr (fun t ht hW => ⟨⟨(0 : Int32), (A_ring_1, A_buffer_1, A_firstPlace_1, A_forcedPlace_1, A_endPlace_1, A_wordsToFailure_1, A_opened_1, vp_updL O_v (0 : Int32).toNatClampNeg r_1.toInt64), rfl, hw, by rw [ht]; exact hP, va_K.moved hW.alike hK, hD⟩, hS.F ht⟩) hS.2.2 dL_back_24
def wp_L_count (post : Int32 → St_AO → Prop) (A_ring : Nat → Int32) (A_buffer : Nat → Int32) (A_firstPlace : Int32) (A_forcedPlace : Int32) (A_endPlace : Int32) (A_wordsToFailure : Int32) (A_opened : Int32) (O_v : Nat → Int64) : Prop :=
  wp_X0_count (fun r_1 u_1 => match u_1 with | (A_ring_1, A_buffer_1, A_firstPlace_1, A_forcedPlace_1, A_endPlace_1, A_wordsToFailure_1, A_opened_1) => vp_in (0 : Int32) 1 ∧ (post (0 : Int32) (A_ring_1, A_buffer_1, A_firstPlace_1, A_forcedPlace_1, A_endPlace_1, A_wordsToFailure_1, A_opened_1, vp_updL O_v (0 : Int32).toNatClampNeg r_1.toInt64))) (fun E9 u9 => match u9 with | (A_ring_x1, A_buffer_x1, A_firstPlace_x1, A_forcedPlace_x1, A_endPlace_x1, A_wordsToFailure_x1, A_opened_x1) => (E9 = "java/lang/IllegalStateException" ∧ post (1 : Int32) (A_ring_x1, A_buffer_x1, A_firstPlace_x1, A_forcedPlace_x1, A_endPlace_x1, A_wordsToFailure_x1, A_opened_x1, O_v))) A_ring A_buffer A_firstPlace A_forcedPlace A_endPlace A_wordsToFailure A_opened
set_option maxHeartbeats 4000000 in
set_option maxRecDepth 100000 in
theorem met_L_count (l : Launch) (hl9 : l.stackTraces = false) (dC : Nat → ClassId) (dI : Nat → Nat → Nat) (qA qA_ring qA_buffer qO : Nat) (cA_ring cA_buffer cO : ClassId) (sz : Nat) (A_ring : Nat → Int32) (A_buffer : Nat → Int32) (A_firstPlace : Int32) (A_forcedPlace : Int32) (A_endPlace : Int32) (A_wordsToFailure : Int32) (A_opened : Int32) (O_v : Nat → Int64) (post : Int32 → St_AO → Prop) (hw : wp_L_count post A_ring A_buffer A_firstPlace A_forcedPlace A_endPlace A_wordsToFailure A_opened O_v) :
    Met l yL_count wsL_count ({ frames := 8, cells := 1, slots := 6, locals := 139 } : Room) (pcX_AO dC dI qA qA_ring qA_buffer qO cA_ring cA_buffer cO sz A_ring A_buffer A_firstPlace A_forcedPlace A_endPlace A_wordsToFailure A_opened O_v [.ref qA, .ref qO]) (va_Qi post (at_AO dC dI (va_A [(qA, .inr (0, [.ref qA_ring, .ref qA_buffer, .int A_firstPlace, .int A_forcedPlace, .int A_endPlace, .int A_wordsToFailure, .int A_opened])), (qA_ring, .inl (cA_ring, 65536, .inl A_ring)), (qA_buffer, .inl (cA_buffer, 200, .inl A_buffer)), (qO, .inl (cO, 1, .inr (.inl O_v)))] sz) qA qA_ring qA_buffer qO cA_ring cA_buffer cO) (va_A [(qA, .inr (0, [.ref qA_ring, .ref qA_buffer, .int A_firstPlace, .int A_forcedPlace, .int A_endPlace, .int A_wordsToFailure, .int A_opened])), (qA_ring, .inl (cA_ring, 65536, .inl A_ring)), (qA_buffer, .inl (cA_buffer, 200, .inl A_buffer)), (qO, .inl (cO, 1, .inr (.inl O_v)))] sz)) 1 6 (va_A [(qA, .inr (0, [.ref qA_ring, .ref qA_buffer, .int A_firstPlace, .int A_forcedPlace, .int A_endPlace, .int A_wordsToFailure, .int A_opened])), (qA_ring, .inl (cA_ring, 65536, .inl A_ring)), (qA_buffer, .inl (cA_buffer, 200, .inl A_buffer)), (qO, .inl (cO, 1, .inr (.inl O_v)))] sz) := by
  refine va_MetW (cc := cL_count) (maxL := 3) (ret := (some .int)) (by decide) rfl ?_
  intro p e s m args below meth c s₁ B hml hv
  obtain ⟨hav, hsz, hP, hK, hD0, hXW0⟩ := hv
  have hx := B.exec
  have hb := B.bytes
  have hr := B.returns
  have hts := atoms_spec (ws := wsL_count) B.pre
  have hbg : ∀ w ∈ bigW, w.before args s = true := fun w h => hts w (List.mem_cons_of_mem _ h)
  have hown : s.vm.findClass RL = some m.cls := findClass_of_methodNamed B.named
  have hlocks := B.notSynchronized
  have hTab : c.exceptionTable.toList = tableOf [(0, 8, 11, 13)] := vx_table (x := yL_count) B (hts _ List.mem_cons_self)
  subst hsz
  have hD := hD0.self (sz := s.heap.size)
  generalize hAe : va_A [(qA, .inr (0, [.ref qA_ring, .ref qA_buffer, .int A_firstPlace, .int A_forcedPlace, .int A_endPlace, .int A_wordsToFailure, .int A_opened])), (qA_ring, .inl (cA_ring, 65536, .inl A_ring)), (qA_buffer, .inl (cA_buffer, 200, .inl A_buffer)), (qO, .inl (cO, 1, .inr (.inl O_v)))] s.heap.size = A at hD hXW0 ⊢
  have hA : ∀ q : Nat, s.heap.size ≤ q → A q := fun q h => by rw [← hAe]; exact Or.inr h
  have hS : va_S A s.heap s.heap [] := va_S.rf
  have hP : va_P (dC, dI) vwCl [(qA, .inr (0, [.ref qA_ring, .ref qA_buffer, .int A_firstPlace, .int A_forcedPlace, .int A_endPlace, .int A_wordsToFailure, .int A_opened])), (qA_ring, .inl (cA_ring, 65536, .inl A_ring)), (qA_buffer, .inl (cA_buffer, 200, .inl A_buffer)), (qO, .inl (cO, 1, .inr (.inl O_v)))] s.heap := hP
  generalize hQQ : MQ below (va_Qi post (at_AO dC dI A qA qA_ring qA_buffer qO cA_ring cA_buffer cO) A) args s 1 6 A = QQ
  have hl := lv_entry ([.ref qA, .ref qO]) (n := 3) (Nat.le_of_ble_eq_true rfl)
  rw [show entryFrame m args 3 = entryFrame m ([.ref qA, .ref qO] : List Value).toArray 3 by rw [hav], lg_entry_eq]
  generalize (lg_sl ([.ref qA, .ref qO]) ++ List.replicate (3 - (lg_sl ([.ref qA, .ref qO])).length) Slot.unset).toArray = ls at hl ⊢
  have hl : lv_has ls 3 [(0, .ref qA), (1, .ref qO)] := hl
  unfold wp_L_count at hw
  refine lv_aload_n hx hb dL_count_0 rfl (lv_at hl 1 rfl) ?_
  refine lv_iconst (v := (0 : Int32)) hx hb dL_count_1 (by decide) ?_
  refine lv_aload_n hx hb dL_count_2 rfl (lv_at hl 0 rfl) ?_
  have hPc := hP.sub (ws' := [(qA, .inr (0, [.ref qA_ring, .ref qA_buffer, .int A_firstPlace, .int A_forcedPlace, .int A_endPlace, .int A_wordsToFailure, .int A_opened])), (qA_ring, .inl (cA_ring, 65536, .inl A_ring)), (qA_buffer, .inl (cA_buffer, 200, .inl A_buffer))]) [0, 1, 2] rfl
  have hKc := hK.sub (tys' := [(cA_ring, .int), (cA_buffer, .int)]) [0, 1] rfl
  have hDc := hD.sub (ws' := [(qA, .inr (0, [.ref qA_ring, .ref qA_buffer, .int A_firstPlace, .int A_forcedPlace, .int A_endPlace, .int A_wordsToFailure, .int A_opened])), (qA_ring, .inl (cA_ring, 65536, .inl A_ring)), (qA_buffer, .inl (cA_buffer, 200, .inl A_buffer))]) [0, 1, 2] (by decide) rfl
  have hFc := va_free (wc := [(qA, .inr (0, [.ref qA_ring, .ref qA_buffer, .int A_firstPlace, .int A_forcedPlace, .int A_endPlace, .int A_wordsToFailure, .int A_opened])), (qA_ring, .inl (cA_ring, 65536, .inl A_ring)), (qA_buffer, .inl (cA_buffer, 200, .inl A_buffer))]) hD hS hA [0, 1, 2] rfl
  refine vx_calli (vx_runV (As := []) (rest := [.int (0 : Int32), .ref qO]) ⟨hx, hb, hml, hown, hbg⟩ (met_X0_count l hl9 dC dI qA qA_ring qA_buffer cA_ring cA_buffer s.heap.size A_ring A_buffer A_firstPlace A_forcedPlace A_endPlace A_wordsToFailure A_opened  _ _ hw) (cwV 0 hbg g_RL_68 rfl rfl rfl (by decide +kernel) ⟨Nat.le_of_ble_eq_true rfl, Nat.le_of_ble_eq_true rfl⟩) ⟨pcX_A_b _ _ _ _ _ _ _ _ _ _ _ _ _ _ _ _, va_recv hK hPc (ci := 0) (q0 := 0) rfl rfl, fun U hU hW => ⟨rfl, by rw [hU], by rw [hU]; exact hPc, va_K.moved hW.alike hKc, hDc.weaken (fun _ _ _ _ => trivial), XW.go hXW0 hS hFc hU hW⟩⟩ rfl rfl hl.1 rfl (lv_room (Nat.le_of_ble_eq_true rfl)) dL_count_3 ⟨Nat.le_of_ble_eq_true rfl, Nat.le_of_ble_eq_true rfl⟩) hS (fun q _ h => hFc q h) hFc (fun q _ h => hFc q h) (fun E9 ce9 q9 u9 t9 H_1 locs ht hvm hpx hBX hz1 hk1 hS hce hcv hcl => ?_) (fun r_1 u_1 t_1 H_1 locs ht hvm hw hB hz1 hk1 hS => ?_)
  · obtain ⟨E8, A_ring_x1, A_buffer_x1, A_firstPlace_x1, A_forcedPlace_x1, A_endPlace_x1, A_wordsToFailure_x1, A_opened_x1⟩ := u9
    obtain ⟨rfl, hP1, hK1, hD1⟩ := hBX
    rw [ht] at hP1
    obtain ⟨hP, hD⟩ := va_join (wr := [(qO, .inl (cO, 1, .inr (.inl O_v)))]) (w1 := [(qA, .inr (0, [.ref qA_ring, .ref qA_buffer, .int A_firstPlace_x1, .int A_forcedPlace_x1, .int A_endPlace_x1, .int A_wordsToFailure_x1, .int A_opened_x1])), (qA_ring, .inl (cA_ring, 65536, .inl A_ring_x1)), (qA_buffer, .inl (cA_buffer, 200, .inl A_buffer_x1))]) hP hD [0, 1, 2] [3] rfl rfl (by decide) (by decide) hk1 hFc hP1 hD1
    have hP : va_P (dC, dI) vwCl [(qA, .inr (0, [.ref qA_ring, .ref qA_buffer, .int A_firstPlace_x1, .int A_forcedPlace_x1, .int A_endPlace_x1, .int A_wordsToFailure_x1, .int A_opened_x1])), (qA_ring, .inl (cA_ring, 65536, .inl A_ring_x1)), (qA_buffer, .inl (cA_buffer, 200, .inl A_buffer_x1)), (qO, .inl (cO, 1, .inr (.inl O_v)))] H_1 := hP.sub [1, 2, 3, 0] rfl
    have hD : va_D A [(qA, .inr (0, [.ref qA_ring, .ref qA_buffer, .int A_firstPlace_x1, .int A_forcedPlace_x1, .int A_endPlace_x1, .int A_wordsToFailure_x1, .int A_opened_x1])), (qA_ring, .inl (cA_ring, 65536, .inl A_ring_x1)), (qA_buffer, .inl (cA_buffer, 200, .inl A_buffer_x1)), (qO, .inl (cO, 1, .inr (.inl O_v)))] := hD.sub [1, 2, 3, 0] (by decide) rfl
    try dsimp only at hpx
    rcases hpx with ⟨rfl, hw⟩
    · refine vx_widen (k := 1) (n := 6) (Nat.le_of_ble_eq_true rfl) (Nat.le_of_ble_eq_true rfl) ?_
      refine vx_catch (own := RL) (name := "java/lang/IllegalStateException") (E := "java/lang/IllegalStateException") hown [] ⟨0, 8, 11, 13⟩ [] (by rw [hTab]; rfl) (fun z hz => nomatch hz) (by decide) (by decide) (hbg _ kw_186) (va_Nw.use rfl (hXW0.1 "java/lang/IllegalStateException" (by decide))) hce hcv hcl ?_
      refine lv_astore_n (lv' := [(2, .ref q9), (0, .ref qA), (1, .ref qO)]) hx hb dL_count_11 rfl hl (by decide) rfl (fun ls hl => ?_)
      refine lv_iconst (v := (1 : Int32)) hx hb dL_count_12 (by decide) ?_
      subst hQQ
      refine W.widen (k := 1) (n := 6) (Nat.le_of_ble_eq_true rfl) (Nat.le_of_ble_eq_true rfl) ?_
      exact W.iret (v := (1 : Int32)) hx hb hr (fun t ht hW => ⟨⟨(1 : Int32), (A_ring_x1, A_buffer_x1, A_firstPlace_x1, A_forcedPlace_x1, A_endPlace_x1, A_wordsToFailure_x1, A_opened_x1, O_v), rfl, hw, by rw [ht]; exact hP, va_K.moved hW.alike hK, hD⟩, hS.F ht⟩) hS.2.2 dL_count_13
  · obtain ⟨A_ring_1, A_buffer_1, A_firstPlace_1, A_forcedPlace_1, A_endPlace_1, A_wordsToFailure_1, A_opened_1⟩ := u_1
    obtain ⟨hP1, hK1, hD1⟩ := hB
    rw [ht] at hP1
    try dsimp only at hw
    obtain ⟨hP, hD⟩ := va_join (wr := [(qO, .inl (cO, 1, .inr (.inl O_v)))]) (w1 := [(qA, .inr (0, [.ref qA_ring, .ref qA_buffer, .int A_firstPlace_1, .int A_forcedPlace_1, .int A_endPlace_1, .int A_wordsToFailure_1, .int A_opened_1])), (qA_ring, .inl (cA_ring, 65536, .inl A_ring_1)), (qA_buffer, .inl (cA_buffer, 200, .inl A_buffer_1))]) hP hD [0, 1, 2] [3] rfl rfl (by decide) (by decide) hk1 hFc hP1 hD1
    have hP : va_P (dC, dI) vwCl [(qA, .inr (0, [.ref qA_ring, .ref qA_buffer, .int A_firstPlace_1, .int A_forcedPlace_1, .int A_endPlace_1, .int A_wordsToFailure_1, .int A_opened_1])), (qA_ring, .inl (cA_ring, 65536, .inl A_ring_1)), (qA_buffer, .inl (cA_buffer, 200, .inl A_buffer_1)), (qO, .inl (cO, 1, .inr (.inl O_v)))] H_1 := hP.sub [1, 2, 3, 0] rfl
    have hD : va_D A [(qA, .inr (0, [.ref qA_ring, .ref qA_buffer, .int A_firstPlace_1, .int A_forcedPlace_1, .int A_endPlace_1, .int A_wordsToFailure_1, .int A_opened_1])), (qA_ring, .inl (cA_ring, 65536, .inl A_ring_1)), (qA_buffer, .inl (cA_buffer, 200, .inl A_buffer_1)), (qO, .inl (cO, 1, .inr (.inl O_v)))] := hD.sub [1, 2, 3, 0] (by decide) rfl
    refine W.widen (k := 1) (n := 6) (Nat.le_of_ble_eq_true rfl) (Nat.le_of_ble_eq_true rfl) ?_
    refine lv_i2l (v := r_1.toInt64) hx hb dL_count_6 rfl ?_
    obtain ⟨h_2, hw⟩ := hw
    refine va_last hx hb hK hP hD hS 3 2 rfl rfl h_2 dL_count_7 (fun H_3 locs hP hD hS => ?_)
    have hP : va_P (dC, dI) vwCl [(qA, .inr (0, [.ref qA_ring, .ref qA_buffer, .int A_firstPlace_1, .int A_forcedPlace_1, .int A_endPlace_1, .int A_wordsToFailure_1, .int A_opened_1])), (qA_ring, .inl (cA_ring, 65536, .inl A_ring_1)), (qA_buffer, .inl (cA_buffer, 200, .inl A_buffer_1)), (qO, .inl (cO, 1, .inr (.inl (vp_updL O_v (0 : Int32).toNatClampNeg r_1.toInt64))))] H_3 := hP
    have hD : va_D A [(qA, .inr (0, [.ref qA_ring, .ref qA_buffer, .int A_firstPlace_1, .int A_forcedPlace_1, .int A_endPlace_1, .int A_wordsToFailure_1, .int A_opened_1])), (qA_ring, .inl (cA_ring, 65536, .inl A_ring_1)), (qA_buffer, .inl (cA_buffer, 200, .inl A_buffer_1)), (qO, .inl (cO, 1, .inr (.inl (vp_updL O_v (0 : Int32).toNatClampNeg r_1.toInt64))))] := hD
    refine lv_goto (tgt := 14) hx hb dL_count_8 (by decide) ?_
    refine lv_iconst (v := (0 : Int32)) hx hb dL_count_14 (by decide) ?_
    subst hQQ
    refine W.widen (k := 1) (n := 6) (Nat.le_of_ble_eq_true rfl) (Nat.le_of_ble_eq_true rfl) ?_
    exact W.iret (v := (0 : Int32)) hx hb hr (fun t ht hW => ⟨⟨(0 : Int32), (A_ring_1, A_buffer_1, A_firstPlace_1, A_forcedPlace_1, A_endPlace_1, A_wordsToFailure_1, A_opened_1, vp_updL O_v (0 : Int32).toNatClampNeg r_1.toInt64), rfl, hw, by rw [ht]; exact hP, va_K.moved hW.alike hK, hD⟩, hS.F ht⟩) hS.2.2 dL_count_15
def wp_L_log (post : Int32 → St_AO → Prop) (x1 : Int32) (A_ring : Nat → Int32) (A_buffer : Nat → Int32) (A_firstPlace : Int32) (A_forcedPlace : Int32) (A_endPlace : Int32) (A_wordsToFailure : Int32) (A_opened : Int32) (O_v : Nat → Int64) : Prop :=
  wp_X0_log (fun r_1 u_1 => match u_1 with | (A_ring_1, A_buffer_1, A_firstPlace_1, A_forcedPlace_1, A_endPlace_1, A_wordsToFailure_1, A_opened_1) => vp_in (0 : Int32) 1 ∧ (post (0 : Int32) (A_ring_1, A_buffer_1, A_firstPlace_1, A_forcedPlace_1, A_endPlace_1, A_wordsToFailure_1, A_opened_1, vp_updL O_v (0 : Int32).toNatClampNeg r_1.toInt64))) (fun E9 u9 => match u9 with | (A_ring_x1, A_buffer_x1, A_firstPlace_x1, A_forcedPlace_x1, A_endPlace_x1, A_wordsToFailure_x1, A_opened_x1) => (E9 = "java/lang/IndexOutOfBoundsException" ∧ post (1 : Int32) (A_ring_x1, A_buffer_x1, A_firstPlace_x1, A_forcedPlace_x1, A_endPlace_x1, A_wordsToFailure_x1, A_opened_x1, O_v))) x1 A_ring A_buffer A_firstPlace A_forcedPlace A_endPlace A_wordsToFailure A_opened
set_option maxHeartbeats 4000000 in
set_option maxRecDepth 100000 in
theorem met_L_log (l : Launch) (hl9 : l.stackTraces = false) (dC : Nat → ClassId) (dI : Nat → Nat → Nat) (qA qA_ring qA_buffer qO : Nat) (cA_ring cA_buffer cO : ClassId) (sz : Nat) (A_ring : Nat → Int32) (A_buffer : Nat → Int32) (A_firstPlace : Int32) (A_forcedPlace : Int32) (A_endPlace : Int32) (A_wordsToFailure : Int32) (A_opened : Int32) (O_v : Nat → Int64) (x1 : Int32) (post : Int32 → St_AO → Prop) (hw : wp_L_log post x1 A_ring A_buffer A_firstPlace A_forcedPlace A_endPlace A_wordsToFailure A_opened O_v) :
    Met l yL_log wsL_log ({ frames := 7, cells := 1, slots := 6, locals := 117 } : Room) (pcX_AO dC dI qA qA_ring qA_buffer qO cA_ring cA_buffer cO sz A_ring A_buffer A_firstPlace A_forcedPlace A_endPlace A_wordsToFailure A_opened O_v [.ref qA, .int x1, .ref qO]) (va_Qi post (at_AO dC dI (va_A [(qA, .inr (0, [.ref qA_ring, .ref qA_buffer, .int A_firstPlace, .int A_forcedPlace, .int A_endPlace, .int A_wordsToFailure, .int A_opened])), (qA_ring, .inl (cA_ring, 65536, .inl A_ring)), (qA_buffer, .inl (cA_buffer, 200, .inl A_buffer)), (qO, .inl (cO, 1, .inr (.inl O_v)))] sz) qA qA_ring qA_buffer qO cA_ring cA_buffer cO) (va_A [(qA, .inr (0, [.ref qA_ring, .ref qA_buffer, .int A_firstPlace, .int A_forcedPlace, .int A_endPlace, .int A_wordsToFailure, .int A_opened])), (qA_ring, .inl (cA_ring, 65536, .inl A_ring)), (qA_buffer, .inl (cA_buffer, 200, .inl A_buffer)), (qO, .inl (cO, 1, .inr (.inl O_v)))] sz)) 1 6 (va_A [(qA, .inr (0, [.ref qA_ring, .ref qA_buffer, .int A_firstPlace, .int A_forcedPlace, .int A_endPlace, .int A_wordsToFailure, .int A_opened])), (qA_ring, .inl (cA_ring, 65536, .inl A_ring)), (qA_buffer, .inl (cA_buffer, 200, .inl A_buffer)), (qO, .inl (cO, 1, .inr (.inl O_v)))] sz) := by
  refine va_MetW (cc := cL_log) (maxL := 4) (ret := (some .int)) (by decide) rfl ?_
  intro p e s m args below meth c s₁ B hml hv
  obtain ⟨hav, hsz, hP, hK, hD0, hXW0⟩ := hv
  have hx := B.exec
  have hb := B.bytes
  have hr := B.returns
  have hts := atoms_spec (ws := wsL_log) B.pre
  have hbg : ∀ w ∈ bigW, w.before args s = true := fun w h => hts w (List.mem_cons_of_mem _ h)
  have hown : s.vm.findClass RL = some m.cls := findClass_of_methodNamed B.named
  have hlocks := B.notSynchronized
  have hTab : c.exceptionTable.toList = tableOf [(0, 9, 12, 15)] := vx_table (x := yL_log) B (hts _ List.mem_cons_self)
  subst hsz
  have hD := hD0.self (sz := s.heap.size)
  generalize hAe : va_A [(qA, .inr (0, [.ref qA_ring, .ref qA_buffer, .int A_firstPlace, .int A_forcedPlace, .int A_endPlace, .int A_wordsToFailure, .int A_opened])), (qA_ring, .inl (cA_ring, 65536, .inl A_ring)), (qA_buffer, .inl (cA_buffer, 200, .inl A_buffer)), (qO, .inl (cO, 1, .inr (.inl O_v)))] s.heap.size = A at hD hXW0 ⊢
  have hA : ∀ q : Nat, s.heap.size ≤ q → A q := fun q h => by rw [← hAe]; exact Or.inr h
  have hS : va_S A s.heap s.heap [] := va_S.rf
  have hP : va_P (dC, dI) vwCl [(qA, .inr (0, [.ref qA_ring, .ref qA_buffer, .int A_firstPlace, .int A_forcedPlace, .int A_endPlace, .int A_wordsToFailure, .int A_opened])), (qA_ring, .inl (cA_ring, 65536, .inl A_ring)), (qA_buffer, .inl (cA_buffer, 200, .inl A_buffer)), (qO, .inl (cO, 1, .inr (.inl O_v)))] s.heap := hP
  generalize hQQ : MQ below (va_Qi post (at_AO dC dI A qA qA_ring qA_buffer qO cA_ring cA_buffer cO) A) args s 1 6 A = QQ
  have hl := lv_entry ([.ref qA, .int x1, .ref qO]) (n := 4) (Nat.le_of_ble_eq_true rfl)
  rw [show entryFrame m args 4 = entryFrame m ([.ref qA, .int x1, .ref qO] : List Value).toArray 4 by rw [hav], lg_entry_eq]
  generalize (lg_sl ([.ref qA, .int x1, .ref qO]) ++ List.replicate (4 - (lg_sl ([.ref qA, .int x1, .ref qO])).length) Slot.unset).toArray = ls at hl ⊢
  have hl : lv_has ls 4 [(0, .ref qA), (1, .int x1), (2, .ref qO)] := hl
  unfold wp_L_log at hw
  refine lv_aload_n hx hb dL_log_0 rfl (lv_at hl 2 rfl) ?_
  refine lv_iconst (v := (0 : Int32)) hx hb dL_log_1 (by decide) ?_
  refine lv_aload_n hx hb dL_log_2 rfl (lv_at hl 0 rfl) ?_
  refine lv_iload_n hx hb dL_log_3 rfl (lv_at hl 1 rfl) ?_
  have hPc := hP.sub (ws' := [(qA, .inr (0, [.ref qA_ring, .ref qA_buffer, .int A_firstPlace, .int A_forcedPlace, .int A_endPlace, .int A_wordsToFailure, .int A_opened])), (qA_ring, .inl (cA_ring, 65536, .inl A_ring)), (qA_buffer, .inl (cA_buffer, 200, .inl A_buffer))]) [0, 1, 2] rfl
  have hKc := hK.sub (tys' := [(cA_ring, .int), (cA_buffer, .int)]) [0, 1] rfl
  have hDc := hD.sub (ws' := [(qA, .inr (0, [.ref qA_ring, .ref qA_buffer, .int A_firstPlace, .int A_forcedPlace, .int A_endPlace, .int A_wordsToFailure, .int A_opened])), (qA_ring, .inl (cA_ring, 65536, .inl A_ring)), (qA_buffer, .inl (cA_buffer, 200, .inl A_buffer))]) [0, 1, 2] (by decide) rfl
  have hFc := va_free (wc := [(qA, .inr (0, [.ref qA_ring, .ref qA_buffer, .int A_firstPlace, .int A_forcedPlace, .int A_endPlace, .int A_wordsToFailure, .int A_opened])), (qA_ring, .inl (cA_ring, 65536, .inl A_ring)), (qA_buffer, .inl (cA_buffer, 200, .inl A_buffer))]) hD hS hA [0, 1, 2] rfl
  refine vx_calli (vx_runV (As := [.int x1]) (rest := [.int (0 : Int32), .ref qO]) ⟨hx, hb, hml, hown, hbg⟩ (met_X0_log l hl9 dC dI qA qA_ring qA_buffer cA_ring cA_buffer s.heap.size A_ring A_buffer A_firstPlace A_forcedPlace A_endPlace A_wordsToFailure A_opened x1 _ _ hw) (cwV 1 hbg g_RL_71 rfl rfl rfl (by decide +kernel) ⟨Nat.le_of_ble_eq_true rfl, Nat.le_of_ble_eq_true rfl⟩) ⟨pcX_A_b _ _ _ _ _ _ _ _ _ _ _ _ _ _ _ _, va_recv hK hPc (ci := 0) (q0 := 0) rfl rfl, fun U hU hW => ⟨rfl, by rw [hU], by rw [hU]; exact hPc, va_K.moved hW.alike hKc, hDc.weaken (fun _ _ _ _ => trivial), XW.go hXW0 hS hFc hU hW⟩⟩ rfl rfl hl.1 rfl (lv_room (Nat.le_of_ble_eq_true rfl)) dL_log_4 ⟨Nat.le_of_ble_eq_true rfl, Nat.le_of_ble_eq_true rfl⟩) hS (fun q _ h => hFc q h) hFc (fun q _ h => hFc q h) (fun E9 ce9 q9 u9 t9 H_1 locs ht hvm hpx hBX hz1 hk1 hS hce hcv hcl => ?_) (fun r_1 u_1 t_1 H_1 locs ht hvm hw hB hz1 hk1 hS => ?_)
  · obtain ⟨E8, A_ring_x1, A_buffer_x1, A_firstPlace_x1, A_forcedPlace_x1, A_endPlace_x1, A_wordsToFailure_x1, A_opened_x1⟩ := u9
    obtain ⟨rfl, hP1, hK1, hD1⟩ := hBX
    rw [ht] at hP1
    obtain ⟨hP, hD⟩ := va_join (wr := [(qO, .inl (cO, 1, .inr (.inl O_v)))]) (w1 := [(qA, .inr (0, [.ref qA_ring, .ref qA_buffer, .int A_firstPlace_x1, .int A_forcedPlace_x1, .int A_endPlace_x1, .int A_wordsToFailure_x1, .int A_opened_x1])), (qA_ring, .inl (cA_ring, 65536, .inl A_ring_x1)), (qA_buffer, .inl (cA_buffer, 200, .inl A_buffer_x1))]) hP hD [0, 1, 2] [3] rfl rfl (by decide) (by decide) hk1 hFc hP1 hD1
    have hP : va_P (dC, dI) vwCl [(qA, .inr (0, [.ref qA_ring, .ref qA_buffer, .int A_firstPlace_x1, .int A_forcedPlace_x1, .int A_endPlace_x1, .int A_wordsToFailure_x1, .int A_opened_x1])), (qA_ring, .inl (cA_ring, 65536, .inl A_ring_x1)), (qA_buffer, .inl (cA_buffer, 200, .inl A_buffer_x1)), (qO, .inl (cO, 1, .inr (.inl O_v)))] H_1 := hP.sub [1, 2, 3, 0] rfl
    have hD : va_D A [(qA, .inr (0, [.ref qA_ring, .ref qA_buffer, .int A_firstPlace_x1, .int A_forcedPlace_x1, .int A_endPlace_x1, .int A_wordsToFailure_x1, .int A_opened_x1])), (qA_ring, .inl (cA_ring, 65536, .inl A_ring_x1)), (qA_buffer, .inl (cA_buffer, 200, .inl A_buffer_x1)), (qO, .inl (cO, 1, .inr (.inl O_v)))] := hD.sub [1, 2, 3, 0] (by decide) rfl
    try dsimp only at hpx
    rcases hpx with ⟨rfl, hw⟩
    · refine vx_widen (k := 1) (n := 6) (Nat.le_of_ble_eq_true rfl) (Nat.le_of_ble_eq_true rfl) ?_
      refine vx_catch (own := RL) (name := "java/lang/IndexOutOfBoundsException") (E := "java/lang/IndexOutOfBoundsException") hown [] ⟨0, 9, 12, 15⟩ [] (by rw [hTab]; rfl) (fun z hz => nomatch hz) (by decide) (by decide) (hbg _ kw_187) (va_Nw.use rfl (hXW0.1 "java/lang/IndexOutOfBoundsException" (by decide))) hce hcv hcl ?_
      refine lv_astore_n (lv' := [(3, .ref q9), (0, .ref qA), (1, .int x1), (2, .ref qO)]) hx hb dL_log_12 rfl hl (by decide) rfl (fun ls hl => ?_)
      refine lv_iconst (v := (1 : Int32)) hx hb dL_log_13 (by decide) ?_
      subst hQQ
      refine W.widen (k := 1) (n := 6) (Nat.le_of_ble_eq_true rfl) (Nat.le_of_ble_eq_true rfl) ?_
      exact W.iret (v := (1 : Int32)) hx hb hr (fun t ht hW => ⟨⟨(1 : Int32), (A_ring_x1, A_buffer_x1, A_firstPlace_x1, A_forcedPlace_x1, A_endPlace_x1, A_wordsToFailure_x1, A_opened_x1, O_v), rfl, hw, by rw [ht]; exact hP, va_K.moved hW.alike hK, hD⟩, hS.F ht⟩) hS.2.2 dL_log_14
  · obtain ⟨A_ring_1, A_buffer_1, A_firstPlace_1, A_forcedPlace_1, A_endPlace_1, A_wordsToFailure_1, A_opened_1⟩ := u_1
    obtain ⟨hP1, hK1, hD1⟩ := hB
    rw [ht] at hP1
    try dsimp only at hw
    obtain ⟨hP, hD⟩ := va_join (wr := [(qO, .inl (cO, 1, .inr (.inl O_v)))]) (w1 := [(qA, .inr (0, [.ref qA_ring, .ref qA_buffer, .int A_firstPlace_1, .int A_forcedPlace_1, .int A_endPlace_1, .int A_wordsToFailure_1, .int A_opened_1])), (qA_ring, .inl (cA_ring, 65536, .inl A_ring_1)), (qA_buffer, .inl (cA_buffer, 200, .inl A_buffer_1))]) hP hD [0, 1, 2] [3] rfl rfl (by decide) (by decide) hk1 hFc hP1 hD1
    have hP : va_P (dC, dI) vwCl [(qA, .inr (0, [.ref qA_ring, .ref qA_buffer, .int A_firstPlace_1, .int A_forcedPlace_1, .int A_endPlace_1, .int A_wordsToFailure_1, .int A_opened_1])), (qA_ring, .inl (cA_ring, 65536, .inl A_ring_1)), (qA_buffer, .inl (cA_buffer, 200, .inl A_buffer_1)), (qO, .inl (cO, 1, .inr (.inl O_v)))] H_1 := hP.sub [1, 2, 3, 0] rfl
    have hD : va_D A [(qA, .inr (0, [.ref qA_ring, .ref qA_buffer, .int A_firstPlace_1, .int A_forcedPlace_1, .int A_endPlace_1, .int A_wordsToFailure_1, .int A_opened_1])), (qA_ring, .inl (cA_ring, 65536, .inl A_ring_1)), (qA_buffer, .inl (cA_buffer, 200, .inl A_buffer_1)), (qO, .inl (cO, 1, .inr (.inl O_v)))] := hD.sub [1, 2, 3, 0] (by decide) rfl
    refine W.widen (k := 1) (n := 6) (Nat.le_of_ble_eq_true rfl) (Nat.le_of_ble_eq_true rfl) ?_
    refine lv_i2l (v := r_1.toInt64) hx hb dL_log_7 rfl ?_
    obtain ⟨h_2, hw⟩ := hw
    refine va_last hx hb hK hP hD hS 3 2 rfl rfl h_2 dL_log_8 (fun H_3 locs hP hD hS => ?_)
    have hP : va_P (dC, dI) vwCl [(qA, .inr (0, [.ref qA_ring, .ref qA_buffer, .int A_firstPlace_1, .int A_forcedPlace_1, .int A_endPlace_1, .int A_wordsToFailure_1, .int A_opened_1])), (qA_ring, .inl (cA_ring, 65536, .inl A_ring_1)), (qA_buffer, .inl (cA_buffer, 200, .inl A_buffer_1)), (qO, .inl (cO, 1, .inr (.inl (vp_updL O_v (0 : Int32).toNatClampNeg r_1.toInt64))))] H_3 := hP
    have hD : va_D A [(qA, .inr (0, [.ref qA_ring, .ref qA_buffer, .int A_firstPlace_1, .int A_forcedPlace_1, .int A_endPlace_1, .int A_wordsToFailure_1, .int A_opened_1])), (qA_ring, .inl (cA_ring, 65536, .inl A_ring_1)), (qA_buffer, .inl (cA_buffer, 200, .inl A_buffer_1)), (qO, .inl (cO, 1, .inr (.inl (vp_updL O_v (0 : Int32).toNatClampNeg r_1.toInt64))))] := hD
    refine lv_goto (tgt := 15) hx hb dL_log_9 (by decide) ?_
    refine lv_iconst (v := (0 : Int32)) hx hb dL_log_15 (by decide) ?_
    subst hQQ
    refine W.widen (k := 1) (n := 6) (Nat.le_of_ble_eq_true rfl) (Nat.le_of_ble_eq_true rfl) ?_
    exact W.iret (v := (0 : Int32)) hx hb hr (fun t ht hW => ⟨⟨(0 : Int32), (A_ring_1, A_buffer_1, A_firstPlace_1, A_forcedPlace_1, A_endPlace_1, A_wordsToFailure_1, A_opened_1, vp_updL O_v (0 : Int32).toNatClampNeg r_1.toInt64), rfl, hw, by rw [ht]; exact hP, va_K.moved hW.alike hK, hD⟩, hS.F ht⟩) hS.2.2 dL_log_16
def wp_L_cutAfter (post : Int32 → St_A → Prop) (x1 : Int32) (A_ring : Nat → Int32) (A_buffer : Nat → Int32) (A_firstPlace : Int32) (A_forcedPlace : Int32) (A_endPlace : Int32) (A_wordsToFailure : Int32) (A_opened : Int32) : Prop :=
  wp_X0_cutAfter (fun u_1 => match u_1 with | (A_ring_1, A_buffer_1, A_firstPlace_1, A_forcedPlace_1, A_endPlace_1, A_wordsToFailure_1, A_opened_1) => post (0 : Int32) (A_ring_1, A_buffer_1, A_firstPlace_1, A_forcedPlace_1, A_endPlace_1, A_wordsToFailure_1, A_opened_1)) (fun E9 u9 => match u9 with | (A_ring_x1, A_buffer_x1, A_firstPlace_x1, A_forcedPlace_x1, A_endPlace_x1, A_wordsToFailure_x1, A_opened_x1) => (E9 = "java/lang/IllegalArgumentException" ∧ post (1 : Int32) (A_ring_x1, A_buffer_x1, A_firstPlace_x1, A_forcedPlace_x1, A_endPlace_x1, A_wordsToFailure_x1, A_opened_x1))) x1 A_ring A_buffer A_firstPlace A_forcedPlace A_endPlace A_wordsToFailure A_opened
set_option maxHeartbeats 4000000 in
set_option maxRecDepth 100000 in
theorem met_L_cutAfter (l : Launch) (hl9 : l.stackTraces = false) (dC : Nat → ClassId) (dI : Nat → Nat → Nat) (qA qA_ring qA_buffer : Nat) (cA_ring cA_buffer : ClassId) (sz : Nat) (A_ring : Nat → Int32) (A_buffer : Nat → Int32) (A_firstPlace : Int32) (A_forcedPlace : Int32) (A_endPlace : Int32) (A_wordsToFailure : Int32) (A_opened : Int32) (x1 : Int32) (post : Int32 → St_A → Prop) (hw : wp_L_cutAfter post x1 A_ring A_buffer A_firstPlace A_forcedPlace A_endPlace A_wordsToFailure A_opened) :
    Met l yL_cutAfter wsL_cutAfter ({ frames := 7, cells := 1, slots := 6, locals := 117 } : Room) (pcX_A dC dI qA qA_ring qA_buffer cA_ring cA_buffer sz A_ring A_buffer A_firstPlace A_forcedPlace A_endPlace A_wordsToFailure A_opened [.ref qA, .int x1]) (va_Qi post (at_A dC dI (va_A [(qA, .inr (0, [.ref qA_ring, .ref qA_buffer, .int A_firstPlace, .int A_forcedPlace, .int A_endPlace, .int A_wordsToFailure, .int A_opened])), (qA_ring, .inl (cA_ring, 65536, .inl A_ring)), (qA_buffer, .inl (cA_buffer, 200, .inl A_buffer))] sz) qA qA_ring qA_buffer cA_ring cA_buffer) (va_A [(qA, .inr (0, [.ref qA_ring, .ref qA_buffer, .int A_firstPlace, .int A_forcedPlace, .int A_endPlace, .int A_wordsToFailure, .int A_opened])), (qA_ring, .inl (cA_ring, 65536, .inl A_ring)), (qA_buffer, .inl (cA_buffer, 200, .inl A_buffer))] sz)) 1 6 (va_A [(qA, .inr (0, [.ref qA_ring, .ref qA_buffer, .int A_firstPlace, .int A_forcedPlace, .int A_endPlace, .int A_wordsToFailure, .int A_opened])), (qA_ring, .inl (cA_ring, 65536, .inl A_ring)), (qA_buffer, .inl (cA_buffer, 200, .inl A_buffer))] sz) := by
  refine va_MetW (cc := cL_cutAfter) (maxL := 3) (ret := (some .int)) (by decide) rfl ?_
  intro p e s m args below meth c s₁ B hml hv
  obtain ⟨hav, hsz, hP, hK, hD0, hXW0⟩ := hv
  have hx := B.exec
  have hb := B.bytes
  have hr := B.returns
  have hts := atoms_spec (ws := wsL_cutAfter) B.pre
  have hbg : ∀ w ∈ bigW, w.before args s = true := fun w h => hts w (List.mem_cons_of_mem _ h)
  have hown : s.vm.findClass RL = some m.cls := findClass_of_methodNamed B.named
  have hlocks := B.notSynchronized
  have hTab : c.exceptionTable.toList = tableOf [(0, 5, 8, 24)] := vx_table (x := yL_cutAfter) B (hts _ List.mem_cons_self)
  subst hsz
  have hD := hD0.self (sz := s.heap.size)
  generalize hAe : va_A [(qA, .inr (0, [.ref qA_ring, .ref qA_buffer, .int A_firstPlace, .int A_forcedPlace, .int A_endPlace, .int A_wordsToFailure, .int A_opened])), (qA_ring, .inl (cA_ring, 65536, .inl A_ring)), (qA_buffer, .inl (cA_buffer, 200, .inl A_buffer))] s.heap.size = A at hD hXW0 ⊢
  have hA : ∀ q : Nat, s.heap.size ≤ q → A q := fun q h => by rw [← hAe]; exact Or.inr h
  have hS : va_S A s.heap s.heap [] := va_S.rf
  have hP : va_P (dC, dI) vwCl [(qA, .inr (0, [.ref qA_ring, .ref qA_buffer, .int A_firstPlace, .int A_forcedPlace, .int A_endPlace, .int A_wordsToFailure, .int A_opened])), (qA_ring, .inl (cA_ring, 65536, .inl A_ring)), (qA_buffer, .inl (cA_buffer, 200, .inl A_buffer))] s.heap := hP
  generalize hQQ : MQ below (va_Qi post (at_A dC dI A qA qA_ring qA_buffer cA_ring cA_buffer) A) args s 1 6 A = QQ
  have hl := lv_entry ([.ref qA, .int x1]) (n := 3) (Nat.le_of_ble_eq_true rfl)
  rw [show entryFrame m args 3 = entryFrame m ([.ref qA, .int x1] : List Value).toArray 3 by rw [hav], lg_entry_eq]
  generalize (lg_sl ([.ref qA, .int x1]) ++ List.replicate (3 - (lg_sl ([.ref qA, .int x1])).length) Slot.unset).toArray = ls at hl ⊢
  have hl : lv_has ls 3 [(0, .ref qA), (1, .int x1)] := hl
  unfold wp_L_cutAfter at hw
  refine lv_aload_n hx hb dL_cutAfter_0 rfl (lv_at hl 0 rfl) ?_
  refine lv_iload_n hx hb dL_cutAfter_1 rfl (lv_at hl 1 rfl) ?_
  have hFc := va_free (wc := [(qA, .inr (0, [.ref qA_ring, .ref qA_buffer, .int A_firstPlace, .int A_forcedPlace, .int A_endPlace, .int A_wordsToFailure, .int A_opened])), (qA_ring, .inl (cA_ring, 65536, .inl A_ring)), (qA_buffer, .inl (cA_buffer, 200, .inl A_buffer))]) hD hS hA [0, 1, 2] rfl
  refine vx_callv (vx_runV (As := [.int x1]) (rest := []) ⟨hx, hb, hml, hown, hbg⟩ (met_X0_cutAfter l hl9 dC dI qA qA_ring qA_buffer cA_ring cA_buffer s.heap.size A_ring A_buffer A_firstPlace A_forcedPlace A_endPlace A_wordsToFailure A_opened x1 _ _ hw) (cwV 1 hbg g_RL_74 rfl rfl rfl (by decide +kernel) ⟨Nat.le_of_ble_eq_true rfl, Nat.le_of_ble_eq_true rfl⟩) ⟨pcX_A_b _ _ _ _ _ _ _ _ _ _ _ _ _ _ _ _, va_recv hK hP (ci := 0) (q0 := 0) rfl rfl, fun U hU hW => ⟨rfl, by rw [hU], by rw [hU]; exact hP, va_K.moved hW.alike hK, hD.weaken (fun _ _ _ _ => trivial), XW.go hXW0 hS hFc hU hW⟩⟩ rfl rfl hl.1 rfl (lv_room (Nat.le_of_ble_eq_true rfl)) dL_cutAfter_2 ⟨Nat.le_of_ble_eq_true rfl, Nat.le_of_ble_eq_true rfl⟩) hS (fun q _ h => hFc q h) hFc (fun q _ h => hFc q h) (fun E9 ce9 q9 u9 t9 H_1 locs ht hvm hpx hBX hz1 hk1 hS hce hcv hcl => ?_) (fun u_1 t_1 H_1 locs ht hvm hw hB hz1 hk1 hS => ?_)
  · obtain ⟨E8, A_ring_x1, A_buffer_x1, A_firstPlace_x1, A_forcedPlace_x1, A_endPlace_x1, A_wordsToFailure_x1, A_opened_x1⟩ := u9
    obtain ⟨rfl, hP1, hK1, hD1⟩ := hBX
    rw [ht] at hP1
    have hP : va_P (dC, dI) vwCl [(qA, .inr (0, [.ref qA_ring, .ref qA_buffer, .int A_firstPlace_x1, .int A_forcedPlace_x1, .int A_endPlace_x1, .int A_wordsToFailure_x1, .int A_opened_x1])), (qA_ring, .inl (cA_ring, 65536, .inl A_ring_x1)), (qA_buffer, .inl (cA_buffer, 200, .inl A_buffer_x1))] H_1 := hP1
    have hD : va_D A [(qA, .inr (0, [.ref qA_ring, .ref qA_buffer, .int A_firstPlace_x1, .int A_forcedPlace_x1, .int A_endPlace_x1, .int A_wordsToFailure_x1, .int A_opened_x1])), (qA_ring, .inl (cA_ring, 65536, .inl A_ring_x1)), (qA_buffer, .inl (cA_buffer, 200, .inl A_buffer_x1))] := hD1.weaken (fun _ _ _ h => hFc _ h)
    try dsimp only at hpx
    rcases hpx with ⟨rfl, hw⟩
    · refine vx_widen (k := 1) (n := 6) (Nat.le_of_ble_eq_true rfl) (Nat.le_of_ble_eq_true rfl) ?_
      refine vx_catch (own := RL) (name := "java/lang/IllegalArgumentException") (E := "java/lang/IllegalArgumentException") hown [] ⟨0, 5, 8, 24⟩ [] (by rw [hTab]; rfl) (fun z hz => nomatch hz) (by decide) (by decide) (hbg _ kw_196) (va_Nw.use rfl (hXW0.1 "java/lang/IllegalArgumentException" (by decide))) hce hcv hcl ?_
      refine lv_astore_n (lv' := [(2, .ref q9), (0, .ref qA), (1, .int x1)]) hx hb dL_cutAfter_8 rfl hl (by decide) rfl (fun ls hl => ?_)
      refine lv_iconst (v := (1 : Int32)) hx hb dL_cutAfter_9 (by decide) ?_
      subst hQQ
      refine W.widen (k := 1) (n := 6) (Nat.le_of_ble_eq_true rfl) (Nat.le_of_ble_eq_true rfl) ?_
      exact W.iret (v := (1 : Int32)) hx hb hr (fun t ht hW => ⟨⟨(1 : Int32), (A_ring_x1, A_buffer_x1, A_firstPlace_x1, A_forcedPlace_x1, A_endPlace_x1, A_wordsToFailure_x1, A_opened_x1), rfl, hw, by rw [ht]; exact hP, va_K.moved hW.alike hK, hD⟩, hS.F ht⟩) hS.2.2 dL_cutAfter_10
  · obtain ⟨A_ring_1, A_buffer_1, A_firstPlace_1, A_forcedPlace_1, A_endPlace_1, A_wordsToFailure_1, A_opened_1⟩ := u_1
    obtain ⟨hP1, hK1, hD1⟩ := hB
    rw [ht] at hP1
    try dsimp only at hw
    have hP : va_P (dC, dI) vwCl [(qA, .inr (0, [.ref qA_ring, .ref qA_buffer, .int A_firstPlace_1, .int A_forcedPlace_1, .int A_endPlace_1, .int A_wordsToFailure_1, .int A_opened_1])), (qA_ring, .inl (cA_ring, 65536, .inl A_ring_1)), (qA_buffer, .inl (cA_buffer, 200, .inl A_buffer_1))] H_1 := hP1
    have hD : va_D A [(qA, .inr (0, [.ref qA_ring, .ref qA_buffer, .int A_firstPlace_1, .int A_forcedPlace_1, .int A_endPlace_1, .int A_wordsToFailure_1, .int A_opened_1])), (qA_ring, .inl (cA_ring, 65536, .inl A_ring_1)), (qA_buffer, .inl (cA_buffer, 200, .inl A_buffer_1))] := hD1.weaken (fun _ _ _ h => hFc _ h)
    refine W.widen (k := 1) (n := 6) (Nat.le_of_ble_eq_true rfl) (Nat.le_of_ble_eq_true rfl) ?_
    refine lv_goto (tgt := 11) hx hb dL_cutAfter_5 (by decide) ?_
    refine lv_iconst (v := (0 : Int32)) hx hb dL_cutAfter_11 (by decide) ?_
    subst hQQ
    refine W.widen (k := 1) (n := 6) (Nat.le_of_ble_eq_true rfl) (Nat.le_of_ble_eq_true rfl) ?_
    exact W.iret (v := (0 : Int32)) hx hb hr (fun t ht hW => ⟨⟨(0 : Int32), (A_ring_1, A_buffer_1, A_firstPlace_1, A_forcedPlace_1, A_endPlace_1, A_wordsToFailure_1, A_opened_1), rfl, hw, by rw [ht]; exact hP, va_K.moved hW.alike hK, hD⟩, hS.F ht⟩) hS.2.2 dL_cutAfter_12
def wp_L_open (post : Int32 → St_AO → Prop) (A_ring : Nat → Int32) (A_buffer : Nat → Int32) (A_firstPlace : Int32) (A_forcedPlace : Int32) (A_endPlace : Int32) (A_wordsToFailure : Int32) (A_opened : Int32) (O_v : Nat → Int64) : Prop :=
  wp_X0_open (fun r_1 u_1 => match u_1 with | (A_ring_1, A_buffer_1, A_firstPlace_1, A_forcedPlace_1, A_endPlace_1, A_wordsToFailure_1, A_opened_1) => vp_in (0 : Int32) 1 ∧ (post (0 : Int32) (A_ring_1, A_buffer_1, A_firstPlace_1, A_forcedPlace_1, A_endPlace_1, A_wordsToFailure_1, A_opened_1, vp_updL O_v (0 : Int32).toNatClampNeg r_1.toInt64))) (fun E9 u9 => match u9 with | (A_ring_x1, A_buffer_x1, A_firstPlace_x1, A_forcedPlace_x1, A_endPlace_x1, A_wordsToFailure_x1, A_opened_x1) => (E9 = "java/lang/IllegalStateException" ∧ post (1 : Int32) (A_ring_x1, A_buffer_x1, A_firstPlace_x1, A_forcedPlace_x1, A_endPlace_x1, A_wordsToFailure_x1, A_opened_x1, O_v))) A_ring A_buffer A_firstPlace A_forcedPlace A_endPlace A_wordsToFailure A_opened
set_option maxHeartbeats 4000000 in
set_option maxRecDepth 100000 in
theorem met_L_open (l : Launch) (hl9 : l.stackTraces = false) (dC : Nat → ClassId) (dI : Nat → Nat → Nat) (qA qA_ring qA_buffer qO : Nat) (cA_ring cA_buffer cO : ClassId) (sz : Nat) (A_ring : Nat → Int32) (A_buffer : Nat → Int32) (A_firstPlace : Int32) (A_forcedPlace : Int32) (A_endPlace : Int32) (A_wordsToFailure : Int32) (A_opened : Int32) (O_v : Nat → Int64) (post : Int32 → St_AO → Prop) (hw : wp_L_open post A_ring A_buffer A_firstPlace A_forcedPlace A_endPlace A_wordsToFailure A_opened O_v) :
    Met l yL_open wsL_open ({ frames := 7, cells := 1, slots := 6, locals := 117 } : Room) (pcX_AO dC dI qA qA_ring qA_buffer qO cA_ring cA_buffer cO sz A_ring A_buffer A_firstPlace A_forcedPlace A_endPlace A_wordsToFailure A_opened O_v [.ref qA, .ref qO]) (va_Qi post (at_AO dC dI (va_A [(qA, .inr (0, [.ref qA_ring, .ref qA_buffer, .int A_firstPlace, .int A_forcedPlace, .int A_endPlace, .int A_wordsToFailure, .int A_opened])), (qA_ring, .inl (cA_ring, 65536, .inl A_ring)), (qA_buffer, .inl (cA_buffer, 200, .inl A_buffer)), (qO, .inl (cO, 1, .inr (.inl O_v)))] sz) qA qA_ring qA_buffer qO cA_ring cA_buffer cO) (va_A [(qA, .inr (0, [.ref qA_ring, .ref qA_buffer, .int A_firstPlace, .int A_forcedPlace, .int A_endPlace, .int A_wordsToFailure, .int A_opened])), (qA_ring, .inl (cA_ring, 65536, .inl A_ring)), (qA_buffer, .inl (cA_buffer, 200, .inl A_buffer)), (qO, .inl (cO, 1, .inr (.inl O_v)))] sz)) 1 6 (va_A [(qA, .inr (0, [.ref qA_ring, .ref qA_buffer, .int A_firstPlace, .int A_forcedPlace, .int A_endPlace, .int A_wordsToFailure, .int A_opened])), (qA_ring, .inl (cA_ring, 65536, .inl A_ring)), (qA_buffer, .inl (cA_buffer, 200, .inl A_buffer)), (qO, .inl (cO, 1, .inr (.inl O_v)))] sz) := by
  refine va_MetW (cc := cL_open) (maxL := 3) (ret := (some .int)) (by decide) rfl ?_
  intro p e s m args below meth c s₁ B hml hv
  obtain ⟨hav, hsz, hP, hK, hD0, hXW0⟩ := hv
  have hx := B.exec
  have hb := B.bytes
  have hr := B.returns
  have hts := atoms_spec (ws := wsL_open) B.pre
  have hbg : ∀ w ∈ bigW, w.before args s = true := fun w h => hts w (List.mem_cons_of_mem _ h)
  have hown : s.vm.findClass RL = some m.cls := findClass_of_methodNamed B.named
  have hlocks := B.notSynchronized
  have hTab : c.exceptionTable.toList = tableOf [(0, 8, 11, 13)] := vx_table (x := yL_open) B (hts _ List.mem_cons_self)
  subst hsz
  have hD := hD0.self (sz := s.heap.size)
  generalize hAe : va_A [(qA, .inr (0, [.ref qA_ring, .ref qA_buffer, .int A_firstPlace, .int A_forcedPlace, .int A_endPlace, .int A_wordsToFailure, .int A_opened])), (qA_ring, .inl (cA_ring, 65536, .inl A_ring)), (qA_buffer, .inl (cA_buffer, 200, .inl A_buffer)), (qO, .inl (cO, 1, .inr (.inl O_v)))] s.heap.size = A at hD hXW0 ⊢
  have hA : ∀ q : Nat, s.heap.size ≤ q → A q := fun q h => by rw [← hAe]; exact Or.inr h
  have hS : va_S A s.heap s.heap [] := va_S.rf
  have hP : va_P (dC, dI) vwCl [(qA, .inr (0, [.ref qA_ring, .ref qA_buffer, .int A_firstPlace, .int A_forcedPlace, .int A_endPlace, .int A_wordsToFailure, .int A_opened])), (qA_ring, .inl (cA_ring, 65536, .inl A_ring)), (qA_buffer, .inl (cA_buffer, 200, .inl A_buffer)), (qO, .inl (cO, 1, .inr (.inl O_v)))] s.heap := hP
  generalize hQQ : MQ below (va_Qi post (at_AO dC dI A qA qA_ring qA_buffer qO cA_ring cA_buffer cO) A) args s 1 6 A = QQ
  have hl := lv_entry ([.ref qA, .ref qO]) (n := 3) (Nat.le_of_ble_eq_true rfl)
  rw [show entryFrame m args 3 = entryFrame m ([.ref qA, .ref qO] : List Value).toArray 3 by rw [hav], lg_entry_eq]
  generalize (lg_sl ([.ref qA, .ref qO]) ++ List.replicate (3 - (lg_sl ([.ref qA, .ref qO])).length) Slot.unset).toArray = ls at hl ⊢
  have hl : lv_has ls 3 [(0, .ref qA), (1, .ref qO)] := hl
  unfold wp_L_open at hw
  refine lv_aload_n hx hb dL_open_0 rfl (lv_at hl 1 rfl) ?_
  refine lv_iconst (v := (0 : Int32)) hx hb dL_open_1 (by decide) ?_
  refine lv_aload_n hx hb dL_open_2 rfl (lv_at hl 0 rfl) ?_
  have hPc := hP.sub (ws' := [(qA, .inr (0, [.ref qA_ring, .ref qA_buffer, .int A_firstPlace, .int A_forcedPlace, .int A_endPlace, .int A_wordsToFailure, .int A_opened])), (qA_ring, .inl (cA_ring, 65536, .inl A_ring)), (qA_buffer, .inl (cA_buffer, 200, .inl A_buffer))]) [0, 1, 2] rfl
  have hKc := hK.sub (tys' := [(cA_ring, .int), (cA_buffer, .int)]) [0, 1] rfl
  have hDc := hD.sub (ws' := [(qA, .inr (0, [.ref qA_ring, .ref qA_buffer, .int A_firstPlace, .int A_forcedPlace, .int A_endPlace, .int A_wordsToFailure, .int A_opened])), (qA_ring, .inl (cA_ring, 65536, .inl A_ring)), (qA_buffer, .inl (cA_buffer, 200, .inl A_buffer))]) [0, 1, 2] (by decide) rfl
  have hFc := va_free (wc := [(qA, .inr (0, [.ref qA_ring, .ref qA_buffer, .int A_firstPlace, .int A_forcedPlace, .int A_endPlace, .int A_wordsToFailure, .int A_opened])), (qA_ring, .inl (cA_ring, 65536, .inl A_ring)), (qA_buffer, .inl (cA_buffer, 200, .inl A_buffer))]) hD hS hA [0, 1, 2] rfl
  refine vx_calli (vx_runV (As := []) (rest := [.int (0 : Int32), .ref qO]) ⟨hx, hb, hml, hown, hbg⟩ (met_X0_open l hl9 dC dI qA qA_ring qA_buffer cA_ring cA_buffer s.heap.size A_ring A_buffer A_firstPlace A_forcedPlace A_endPlace A_wordsToFailure A_opened  _ _ hw) (cwV 0 hbg g_RL_78 rfl rfl rfl (by decide +kernel) ⟨Nat.le_of_ble_eq_true rfl, Nat.le_of_ble_eq_true rfl⟩) ⟨pcX_A_b _ _ _ _ _ _ _ _ _ _ _ _ _ _ _ _, va_recv hK hPc (ci := 0) (q0 := 0) rfl rfl, fun U hU hW => ⟨rfl, by rw [hU], by rw [hU]; exact hPc, va_K.moved hW.alike hKc, hDc.weaken (fun _ _ _ _ => trivial), XW.go hXW0 hS hFc hU hW⟩⟩ rfl rfl hl.1 rfl (lv_room (Nat.le_of_ble_eq_true rfl)) dL_open_3 ⟨Nat.le_of_ble_eq_true rfl, Nat.le_of_ble_eq_true rfl⟩) hS (fun q _ h => hFc q h) hFc (fun q _ h => hFc q h) (fun E9 ce9 q9 u9 t9 H_1 locs ht hvm hpx hBX hz1 hk1 hS hce hcv hcl => ?_) (fun r_1 u_1 t_1 H_1 locs ht hvm hw hB hz1 hk1 hS => ?_)
  · obtain ⟨E8, A_ring_x1, A_buffer_x1, A_firstPlace_x1, A_forcedPlace_x1, A_endPlace_x1, A_wordsToFailure_x1, A_opened_x1⟩ := u9
    obtain ⟨rfl, hP1, hK1, hD1⟩ := hBX
    rw [ht] at hP1
    obtain ⟨hP, hD⟩ := va_join (wr := [(qO, .inl (cO, 1, .inr (.inl O_v)))]) (w1 := [(qA, .inr (0, [.ref qA_ring, .ref qA_buffer, .int A_firstPlace_x1, .int A_forcedPlace_x1, .int A_endPlace_x1, .int A_wordsToFailure_x1, .int A_opened_x1])), (qA_ring, .inl (cA_ring, 65536, .inl A_ring_x1)), (qA_buffer, .inl (cA_buffer, 200, .inl A_buffer_x1))]) hP hD [0, 1, 2] [3] rfl rfl (by decide) (by decide) hk1 hFc hP1 hD1
    have hP : va_P (dC, dI) vwCl [(qA, .inr (0, [.ref qA_ring, .ref qA_buffer, .int A_firstPlace_x1, .int A_forcedPlace_x1, .int A_endPlace_x1, .int A_wordsToFailure_x1, .int A_opened_x1])), (qA_ring, .inl (cA_ring, 65536, .inl A_ring_x1)), (qA_buffer, .inl (cA_buffer, 200, .inl A_buffer_x1)), (qO, .inl (cO, 1, .inr (.inl O_v)))] H_1 := hP.sub [1, 2, 3, 0] rfl
    have hD : va_D A [(qA, .inr (0, [.ref qA_ring, .ref qA_buffer, .int A_firstPlace_x1, .int A_forcedPlace_x1, .int A_endPlace_x1, .int A_wordsToFailure_x1, .int A_opened_x1])), (qA_ring, .inl (cA_ring, 65536, .inl A_ring_x1)), (qA_buffer, .inl (cA_buffer, 200, .inl A_buffer_x1)), (qO, .inl (cO, 1, .inr (.inl O_v)))] := hD.sub [1, 2, 3, 0] (by decide) rfl
    try dsimp only at hpx
    rcases hpx with ⟨rfl, hw⟩
    · refine vx_widen (k := 1) (n := 6) (Nat.le_of_ble_eq_true rfl) (Nat.le_of_ble_eq_true rfl) ?_
      refine vx_catch (own := RL) (name := "java/lang/IllegalStateException") (E := "java/lang/IllegalStateException") hown [] ⟨0, 8, 11, 13⟩ [] (by rw [hTab]; rfl) (fun z hz => nomatch hz) (by decide) (by decide) (hbg _ kw_186) (va_Nw.use rfl (hXW0.1 "java/lang/IllegalStateException" (by decide))) hce hcv hcl ?_
      refine lv_astore_n (lv' := [(2, .ref q9), (0, .ref qA), (1, .ref qO)]) hx hb dL_open_11 rfl hl (by decide) rfl (fun ls hl => ?_)
      refine lv_iconst (v := (1 : Int32)) hx hb dL_open_12 (by decide) ?_
      subst hQQ
      refine W.widen (k := 1) (n := 6) (Nat.le_of_ble_eq_true rfl) (Nat.le_of_ble_eq_true rfl) ?_
      exact W.iret (v := (1 : Int32)) hx hb hr (fun t ht hW => ⟨⟨(1 : Int32), (A_ring_x1, A_buffer_x1, A_firstPlace_x1, A_forcedPlace_x1, A_endPlace_x1, A_wordsToFailure_x1, A_opened_x1, O_v), rfl, hw, by rw [ht]; exact hP, va_K.moved hW.alike hK, hD⟩, hS.F ht⟩) hS.2.2 dL_open_13
  · obtain ⟨A_ring_1, A_buffer_1, A_firstPlace_1, A_forcedPlace_1, A_endPlace_1, A_wordsToFailure_1, A_opened_1⟩ := u_1
    obtain ⟨hP1, hK1, hD1⟩ := hB
    rw [ht] at hP1
    try dsimp only at hw
    obtain ⟨hP, hD⟩ := va_join (wr := [(qO, .inl (cO, 1, .inr (.inl O_v)))]) (w1 := [(qA, .inr (0, [.ref qA_ring, .ref qA_buffer, .int A_firstPlace_1, .int A_forcedPlace_1, .int A_endPlace_1, .int A_wordsToFailure_1, .int A_opened_1])), (qA_ring, .inl (cA_ring, 65536, .inl A_ring_1)), (qA_buffer, .inl (cA_buffer, 200, .inl A_buffer_1))]) hP hD [0, 1, 2] [3] rfl rfl (by decide) (by decide) hk1 hFc hP1 hD1
    have hP : va_P (dC, dI) vwCl [(qA, .inr (0, [.ref qA_ring, .ref qA_buffer, .int A_firstPlace_1, .int A_forcedPlace_1, .int A_endPlace_1, .int A_wordsToFailure_1, .int A_opened_1])), (qA_ring, .inl (cA_ring, 65536, .inl A_ring_1)), (qA_buffer, .inl (cA_buffer, 200, .inl A_buffer_1)), (qO, .inl (cO, 1, .inr (.inl O_v)))] H_1 := hP.sub [1, 2, 3, 0] rfl
    have hD : va_D A [(qA, .inr (0, [.ref qA_ring, .ref qA_buffer, .int A_firstPlace_1, .int A_forcedPlace_1, .int A_endPlace_1, .int A_wordsToFailure_1, .int A_opened_1])), (qA_ring, .inl (cA_ring, 65536, .inl A_ring_1)), (qA_buffer, .inl (cA_buffer, 200, .inl A_buffer_1)), (qO, .inl (cO, 1, .inr (.inl O_v)))] := hD.sub [1, 2, 3, 0] (by decide) rfl
    refine W.widen (k := 1) (n := 6) (Nat.le_of_ble_eq_true rfl) (Nat.le_of_ble_eq_true rfl) ?_
    refine lv_i2l (v := r_1.toInt64) hx hb dL_open_6 rfl ?_
    obtain ⟨h_2, hw⟩ := hw
    refine va_last hx hb hK hP hD hS 3 2 rfl rfl h_2 dL_open_7 (fun H_3 locs hP hD hS => ?_)
    have hP : va_P (dC, dI) vwCl [(qA, .inr (0, [.ref qA_ring, .ref qA_buffer, .int A_firstPlace_1, .int A_forcedPlace_1, .int A_endPlace_1, .int A_wordsToFailure_1, .int A_opened_1])), (qA_ring, .inl (cA_ring, 65536, .inl A_ring_1)), (qA_buffer, .inl (cA_buffer, 200, .inl A_buffer_1)), (qO, .inl (cO, 1, .inr (.inl (vp_updL O_v (0 : Int32).toNatClampNeg r_1.toInt64))))] H_3 := hP
    have hD : va_D A [(qA, .inr (0, [.ref qA_ring, .ref qA_buffer, .int A_firstPlace_1, .int A_forcedPlace_1, .int A_endPlace_1, .int A_wordsToFailure_1, .int A_opened_1])), (qA_ring, .inl (cA_ring, 65536, .inl A_ring_1)), (qA_buffer, .inl (cA_buffer, 200, .inl A_buffer_1)), (qO, .inl (cO, 1, .inr (.inl (vp_updL O_v (0 : Int32).toNatClampNeg r_1.toInt64))))] := hD
    refine lv_goto (tgt := 14) hx hb dL_open_8 (by decide) ?_
    refine lv_iconst (v := (0 : Int32)) hx hb dL_open_14 (by decide) ?_
    subst hQQ
    refine W.widen (k := 1) (n := 6) (Nat.le_of_ble_eq_true rfl) (Nat.le_of_ble_eq_true rfl) ?_
    exact W.iret (v := (0 : Int32)) hx hb hr (fun t ht hW => ⟨⟨(0 : Int32), (A_ring_1, A_buffer_1, A_firstPlace_1, A_forcedPlace_1, A_endPlace_1, A_wordsToFailure_1, A_opened_1, vp_updL O_v (0 : Int32).toNatClampNeg r_1.toInt64), rfl, hw, by rw [ht]; exact hP, va_K.moved hW.alike hK, hD⟩, hS.F ht⟩) hS.2.2 dL_open_15
