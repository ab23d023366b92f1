def wp_L_append (post : Int32 → St_AO → Prop) (x1 : Int32) (x2 : Int32) (x3 : Int32) (x4 : Int32) (A_ring : Nat → Int32) (A_buffer : Nat → Int32) (A_firstPlace : Int32) (A_forcedPlace : Int32) (A_endPlace : Int32) (A_wordsToFailure : Int32) (A_opened : Int32) (O_v : Nat → Int64) : Prop :=
  wp_X0_append (fun r_1 u_1 => match u_1 with | (A_ring_1, A_buffer_1, A_firstPlace_1, A_forcedPlace_1, A_endPlace_1, A_wordsToFailure_1, A_opened_1) => vp_in (0 : Int32) 1 ∧ (post (0 : Int32) (A_ring_1, A_buffer_1, A_firstPlace_1, A_forcedPlace_1, A_endPlace_1, A_wordsToFailure_1, A_opened_1, vp_updL O_v (0 : Int32).toNatClampNeg r_1.toInt64))) (fun E9 u9 => match u9 with | (A_ring_x1, A_buffer_x1, A_firstPlace_x1, A_forcedPlace_x1, A_endPlace_x1, A_wordsToFailure_x1, A_opened_x1) => (E9 = "java/lang/IllegalStateException" ∧ post (1 : Int32) (A_ring_x1, A_buffer_x1, A_firstPlace_x1, A_forcedPlace_x1, A_endPlace_x1, A_wordsToFailure_x1, A_opened_x1, O_v)) ∨ (E9 = "java/lang/IllegalArgumentException" ∧ post (2 : Int32) (A_ring_x1, A_buffer_x1, A_firstPlace_x1, A_forcedPlace_x1, A_endPlace_x1, A_wordsToFailure_x1, A_opened_x1, O_v))) x1 x2 x3 x4 A_ring A_buffer A_firstPlace A_forcedPlace A_endPlace A_wordsToFailure A_opened
set_option maxHeartbeats 4000000 in
set_option maxRecDepth 100000 in
theorem met_L_append (l : Launch) (hl9 : l.stackTraces = false) (dC : Nat → ClassId) (dI : Nat → Nat → Nat) (qA qA_ring qA_buffer qO : Nat) (cA_ring cA_buffer cO : ClassId) (sz : Nat) (A_ring : Nat → Int32) (A_buffer : Nat → Int32) (A_firstPlace : Int32) (A_forcedPlace : Int32) (A_endPlace : Int32) (A_wordsToFailure : Int32) (A_opened : Int32) (O_v : Nat → Int64) (x1 : Int32) (x2 : Int32) (x3 : Int32) (x4 : Int32) (post : Int32 → St_AO → Prop) (hw : wp_L_append post x1 x2 x3 x4 A_ring A_buffer A_firstPlace A_forcedPlace A_endPlace A_wordsToFailure A_opened O_v) :
    Met l yL_append wsL_append ({ frames := 8, cells := 3, slots := 18, locals := 144 } : Room) (pcX_AO dC dI qA qA_ring qA_buffer qO cA_ring cA_buffer cO sz A_ring A_buffer A_firstPlace A_forcedPlace A_endPlace A_wordsToFailure A_opened O_v [.ref qA, .int x1, .int x2, .int x3, .int x4, .ref qO]) (va_Qi post (at_AO dC dI (va_A [(qA, .inr (0, [.ref qA_ring, .ref qA_buffer, .int A_firstPlace, .int A_forcedPlace, .int A_endPlace, .int A_wordsToFailure, .int A_opened])), (qA_ring, .inl (cA_ring, 65536, .inl A_ring)), (qA_buffer, .inl (cA_buffer, 200, .inl A_buffer)), (qO, .inl (cO, 1, .inr (.inl O_v)))] sz) qA qA_ring qA_buffer qO cA_ring cA_buffer cO) (va_A [(qA, .inr (0, [.ref qA_ring, .ref qA_buffer, .int A_firstPlace, .int A_forcedPlace, .int A_endPlace, .int A_wordsToFailure, .int A_opened])), (qA_ring, .inl (cA_ring, 65536, .inl A_ring)), (qA_buffer, .inl (cA_buffer, 200, .inl A_buffer)), (qO, .inl (cO, 1, .inr (.inl O_v)))] sz)) 3 18 (va_A [(qA, .inr (0, [.ref qA_ring, .ref qA_buffer, .int A_firstPlace, .int A_forcedPlace, .int A_endPlace, .int A_wordsToFailure, .int A_opened])), (qA_ring, .inl (cA_ring, 65536, .inl A_ring)), (qA_buffer, .inl (cA_buffer, 200, .inl A_buffer)), (qO, .inl (cO, 1, .inr (.inl O_v)))] sz) := by
  refine va_MetW (cc := cL_append) (maxL := 7) (ret := (some .int)) (by decide) rfl ?_
  intro p e s m args below meth c s₁ B hml hv
  obtain ⟨hav, hsz, hP, hK, hD0, hXW0⟩ := hv
  have hx := B.exec
  have hb := B.bytes
  have hr := B.returns
  have hts := atoms_spec (ws := wsL_append) B.pre
  have hbg : ∀ w ∈ bigW, w.before args s = true := fun w h => hts w (List.mem_cons_of_mem _ h)
  have hown : s.vm.findClass RL = some m.cls := findClass_of_methodNamed B.named
  have hlocks := B.notSynchronized
  have hTab : c.exceptionTable.toList = tableOf [(0, 14, 17, 13), (0, 14, 21, 24)] := vx_table (x := yL_append) B (hts _ List.mem_cons_self)
  subst hsz
  have hD := hD0.self (sz := s.heap.size)
  generalize hAe : va_A [(qA, .inr (0, [.ref qA_ring, .ref qA_buffer, .int A_firstPlace, .int A_forcedPlace, .int A_endPlace, .int A_wordsToFailure, .int A_opened])), (qA_ring, .inl (cA_ring, 65536, .inl A_ring)), (qA_buffer, .inl (cA_buffer, 200, .inl A_buffer)), (qO, .inl (cO, 1, .inr (.inl O_v)))] s.heap.size = A at hD hXW0 ⊢
  have hA : ∀ q : Nat, s.heap.size ≤ q → A q := fun q h => by rw [← hAe]; exact Or.inr h
  have hS : va_S A s.heap s.heap [] := va_S.rf
  have hP : va_P (dC, dI) vwCl [(qA, .inr (0, [.ref qA_ring, .ref qA_buffer, .int A_firstPlace, .int A_forcedPlace, .int A_endPlace, .int A_wordsToFailure, .int A_opened])), (qA_ring, .inl (cA_ring, 65536, .inl A_ring)), (qA_buffer, .inl (cA_buffer, 200, .inl A_buffer)), (qO, .inl (cO, 1, .inr (.inl O_v)))] s.heap := hP
  generalize hQQ : MQ below (va_Qi post (at_AO dC dI A qA qA_ring qA_buffer qO cA_ring cA_buffer cO) A) args s 3 18 A = QQ
  have hl := lv_entry ([.ref qA, .int x1, .int x2, .int x3, .int x4, .ref qO]) (n := 7) (Nat.le_of_ble_eq_true rfl)
  rw [show entryFrame m args 7 = entryFrame m ([.ref qA, .int x1, .int x2, .int x3, .int x4, .ref qO] : List Value).toArray 7 by rw [hav], lg_entry_eq]
  generalize (lg_sl ([.ref qA, .int x1, .int x2, .int x3, .int x4, .ref qO]) ++ List.replicate (7 - (lg_sl ([.ref qA, .int x1, .int x2, .int x3, .int x4, .ref qO])).length) Slot.unset).toArray = ls at hl ⊢
  have hl : lv_has ls 7 [(0, .ref qA), (1, .int x1), (2, .int x2), (3, .int x3), (4, .int x4), (5, .ref qO)] := hl
  unfold wp_L_append at hw
  refine lv_aload hx hb dL_append_0 (lv_at hl 5 rfl) ?_
  refine lv_iconst (v := (0 : Int32)) hx hb dL_append_2 (by decide) ?_
  refine lv_aload_n hx hb dL_append_3 rfl (lv_at hl 0 rfl) ?_
  refine lv_iload_n hx hb dL_append_4 rfl (lv_at hl 1 rfl) ?_
  refine lv_iload_n hx hb dL_append_5 rfl (lv_at hl 2 rfl) ?_
  refine lv_iload_n hx hb dL_append_6 rfl (lv_at hl 3 rfl) ?_
  refine lv_iload hx hb dL_append_7 (lv_at hl 4 rfl) ?_
  have hPc := hP.sub (ws' := [(qA, .inr (0, [.ref qA_ring, .ref qA_buffer, .int A_firstPlace, .int A_forcedPlace, .int A_endPlace, .int A_wordsToFailure, .int A_opened])), (qA_ring, .inl (cA_ring, 65536, .inl A_ring)), (qA_buffer, .inl (cA_buffer, 200, .inl A_buffer))]) [0, 1, 2] rfl
  have hKc := hK.sub (tys' := [(cA_ring, .int), (cA_buffer, .int)]) [0, 1] rfl
  have hDc := hD.sub (ws' := [(qA, .inr (0, [.ref qA_ring, .ref qA_buffer, .int A_firstPlace, .int A_forcedPlace, .int A_endPlace, .int A_wordsToFailure, .int A_opened])), (qA_ring, .inl (cA_ring, 65536, .inl A_ring)), (qA_buffer, .inl (cA_buffer, 200, .inl A_buffer))]) [0, 1, 2] (by decide) rfl
  have hFc := va_free (wc := [(qA, .inr (0, [.ref qA_ring, .ref qA_buffer, .int A_firstPlace, .int A_forcedPlace, .int A_endPlace, .int A_wordsToFailure, .int A_opened])), (qA_ring, .inl (cA_ring, 65536, .inl A_ring)), (qA_buffer, .inl (cA_buffer, 200, .inl A_buffer))]) hD hS hA [0, 1, 2] rfl
  refine vx_calli (vx_runV (As := [.int x1, .int x2, .int x3, .int x4]) (rest := [.int (0 : Int32), .ref qO]) ⟨hx, hb, hml, hown, hbg⟩ (met_X0_append l hl9 dC dI qA qA_ring qA_buffer cA_ring cA_buffer s.heap.size A_ring A_buffer A_firstPlace A_forcedPlace A_endPlace A_wordsToFailure A_opened x1 x2 x3 x4 _ _ hw) (cwV 4 hbg g_RL_20 rfl rfl rfl (by decide +kernel) ⟨Nat.le_of_ble_eq_true rfl, Nat.le_of_ble_eq_true rfl⟩) ⟨pcX_A_b _ _ _ _ _ _ _ _ _ _ _ _ _ _ _ _, va_recv hK hPc (ci := 0) (q0 := 0) rfl rfl, fun U hU hW => ⟨rfl, by rw [hU], by rw [hU]; exact hPc, va_K.moved hW.alike hKc, hDc.weaken (fun _ _ _ _ => trivial), XW.go hXW0 hS hFc hU hW⟩⟩ rfl rfl hl.1 rfl (lv_room (Nat.le_of_ble_eq_true rfl)) dL_append_9 ⟨Nat.le_of_ble_eq_true rfl, Nat.le_of_ble_eq_true rfl⟩) hS (fun q _ h => hFc q h) hFc (fun q _ h => hFc q h) (fun E9 ce9 q9 u9 t9 H_1 locs ht hvm hpx hBX hz1 hk1 hS hce hcv hcl => ?_) (fun r_1 u_1 t_1 H_1 locs ht hvm hw hB hz1 hk1 hS => ?_)
  · obtain ⟨E8, A_ring_x1, A_buffer_x1, A_firstPlace_x1, A_forcedPlace_x1, A_endPlace_x1, A_wordsToFailure_x1, A_opened_x1⟩ := u9
    obtain ⟨rfl, hP1, hK1, hD1⟩ := hBX
    rw [ht] at hP1
    obtain ⟨hP, hD⟩ := va_join (wr := [(qO, .inl (cO, 1, .inr (.inl O_v)))]) (w1 := [(qA, .inr (0, [.ref qA_ring, .ref qA_buffer, .int A_firstPlace_x1, .int A_forcedPlace_x1, .int A_endPlace_x1, .int A_wordsToFailure_x1, .int A_opened_x1])), (qA_ring, .inl (cA_ring, 65536, .inl A_ring_x1)), (qA_buffer, .inl (cA_buffer, 200, .inl A_buffer_x1))]) hP hD [0, 1, 2] [3] rfl rfl (by decide) (by decide) hk1 hFc hP1 hD1
    have hP : va_P (dC, dI) vwCl [(qA, .inr (0, [.ref qA_ring, .ref qA_buffer, .int A_firstPlace_x1, .int A_forcedPlace_x1, .int A_endPlace_x1, .int A_wordsToFailure_x1, .int A_opened_x1])), (qA_ring, .inl (cA_ring, 65536, .inl A_ring_x1)), (qA_buffer, .inl (cA_buffer, 200, .inl A_buffer_x1)), (qO, .inl (cO, 1, .inr (.inl O_v)))] H_1 := hP.sub [1, 2, 3, 0] rfl
    have hD : va_D A [(qA, .inr (0, [.ref qA_ring, .ref qA_buffer, .int A_firstPlace_x1, .int A_forcedPlace_x1, .int A_endPlace_x1, .int A_wordsToFailure_x1, .int A_opened_x1])), (qA_ring, .inl (cA_ring, 65536, .inl A_ring_x1)), (qA_buffer, .inl (cA_buffer, 200, .inl A_buffer_x1)), (qO, .inl (cO, 1, .inr (.inl O_v)))] := hD.sub [1, 2, 3, 0] (by decide) rfl
    try dsimp only at hpx
    rcases hpx with ⟨rfl, hw⟩ | ⟨rfl, hw⟩
    · refine vx_widen (k := 3) (n := 18) (Nat.le_of_ble_eq_true rfl) (Nat.le_of_ble_eq_true rfl) ?_
      refine vx_catch (own := RL) (name := "java/lang/IllegalStateException") (E := "java/lang/IllegalStateException") hown [] ⟨0, 14, 17, 13⟩ [⟨0, 14, 21, 24⟩] (by rw [hTab]; rfl) (fun z hz => nomatch hz) (by decide) (by decide) (hbg _ kw_114) (va_Nw.use rfl (hXW0.1 "java/lang/IllegalStateException" (by decide))) hce hcv hcl ?_
      refine lv_astore (lv' := [(6, .ref q9), (0, .ref qA), (1, .int x1), (2, .int x2), (3, .int x3), (4, .int x4), (5, .ref qO)]) hx hb dL_append_17 hl (by decide) rfl (fun ls hl => ?_)
      refine lv_iconst (v := (1 : Int32)) hx hb dL_append_19 (by decide) ?_
      subst hQQ
      refine W.widen (k := 3) (n := 18) (Nat.le_of_ble_eq_true rfl) (Nat.le_of_ble_eq_true rfl) ?_
      exact W.iret (v := (1 : Int32)) hx hb hr (fun t ht hW => ⟨⟨(1 : Int32), (A_ring_x1, A_buffer_x1, A_firstPlace_x1, A_forcedPlace_x1, A_endPlace_x1, A_wordsToFailure_x1, A_opened_x1, O_v), rfl, hw, by rw [ht]; exact hP, va_K.moved hW.alike hK, hD⟩, hS.F ht⟩) hS.2.2 dL_append_20
    · refine vx_widen (k := 3) (n := 18) (Nat.le_of_ble_eq_true rfl) (Nat.le_of_ble_eq_true rfl) ?_
      refine vx_catch (own := RL) (name := "java/lang/IllegalArgumentException") (E := "java/lang/IllegalArgumentException") hown [⟨0, 14, 17, 13⟩] ⟨0, 14, 21, 24⟩ [] (by rw [hTab]; rfl) (by
        intro z hz
        rcases List.mem_cons.mp hz with rfl | hz
        · exact Or.inr ⟨by decide, "java/lang/IllegalStateException", hbg _ kw_114, hXW0.2.2.2.1 ("java/lang/IllegalArgumentException", "java/lang/IllegalStateException") (by decide)⟩
        cases hz) (by decide) (by decide) (hbg _ kw_115) (va_Nw.use rfl (hXW0.1 "java/lang/IllegalArgumentException" (by decide))) hce hcv hcl ?_
      refine lv_astore (lv' := [(6, .ref q9), (0, .ref qA), (1, .int x1), (2, .int x2), (3, .int x3), (4, .int x4), (5, .ref qO)]) hx hb dL_append_21 hl (by decide) rfl (fun ls hl => ?_)
      refine lv_iconst (v := (2 : Int32)) hx hb dL_append_23 (by decide) ?_
      subst hQQ
      refine W.widen (k := 3) (n := 18) (Nat.le_of_ble_eq_true rfl) (Nat.le_of_ble_eq_true rfl) ?_
      exact W.iret (v := (2 : Int32)) hx hb hr (fun t ht hW => ⟨⟨(2 : Int32), (A_ring_x1, A_buffer_x1, A_firstPlace_x1, A_forcedPlace_x1, A_endPlace_x1, A_wordsToFailure_x1, A_opened_x1, O_v), rfl, hw, by rw [ht]; exact hP, va_K.moved hW.alike hK, hD⟩, hS.F ht⟩) hS.2.2 dL_append_24
  · obtain ⟨A_ring_1, A_buffer_1, A_firstPlace_1, A_forcedPlace_1, A_endPlace_1, A_wordsToFailure_1, A_opened_1⟩ := u_1
    obtain ⟨hP1, hK1, hD1⟩ := hB
    rw [ht] at hP1
    try dsimp only at hw
    obtain ⟨hP, hD⟩ := va_join (wr := [(qO, .inl (cO, 1, .inr (.inl O_v)))]) (w1 := [(qA, .inr (0, [.ref qA_ring, .ref qA_buffer, .int A_firstPlace_1, .int A_forcedPlace_1, .int A_endPlace_1, .int A_wordsToFailure_1, .int A_opened_1])), (qA_ring, .inl (cA_ring, 65536, .inl A_ring_1)), (qA_buffer, .inl (cA_buffer, 200, .inl A_buffer_1))]) hP hD [0, 1, 2] [3] rfl rfl (by decide) (by decide) hk1 hFc hP1 hD1
    have hP : va_P (dC, dI) vwCl [(qA, .inr (0, [.ref qA_ring, .ref qA_buffer, .int A_firstPlace_1, .int A_forcedPlace_1, .int A_endPlace_1, .int A_wordsToFailure_1, .int A_opened_1])), (qA_ring, .inl (cA_ring, 65536, .inl A_ring_1)), (qA_buffer, .inl (cA_buffer, 200, .inl A_buffer_1)), (qO, .inl (cO, 1, .inr (.inl O_v)))] H_1 := hP.sub [1, 2, 3, 0] rfl
    have hD : va_D A [(qA, .inr (0, [.ref qA_ring, .ref qA_buffer, .int A_firstPlace_1, .int A_forcedPlace_1, .int A_endPlace_1, .int A_wordsToFailure_1, .int A_opened_1])), (qA_ring, .inl (cA_ring, 65536, .inl A_ring_1)), (qA_buffer, .inl (cA_buffer, 200, .inl A_buffer_1)), (qO, .inl (cO, 1, .inr (.inl O_v)))] := hD.sub [1, 2, 3, 0] (by decide) rfl
    refine W.widen (k := 3) (n := 18) (Nat.le_of_ble_eq_true rfl) (Nat.le_of_ble_eq_true rfl) ?_
    refine lv_i2l (v := r_1.toInt64) hx hb dL_append_12 rfl ?_
    obtain ⟨h_2, hw⟩ := hw
    refine va_last hx hb hK hP hD hS 3 2 rfl rfl h_2 dL_append_13 (fun H_3 locs hP hD hS => ?_)
    have hP : va_P (dC, dI) vwCl [(qA, .inr (0, [.ref qA_ring, .ref qA_buffer, .int A_firstPlace_1, .int A_forcedPlace_1, .int A_endPlace_1, .int A_wordsToFailure_1, .int A_opened_1])), (qA_ring, .inl (cA_ring, 65536, .inl A_ring_1)), (qA_buffer, .inl (cA_buffer, 200, .inl A_buffer_1)), (qO, .inl (cO, 1, .inr (.inl (vp_updL O_v (0 : Int32).toNatClampNeg r_1.toInt64))))] H_3 := hP
    have hD : va_D A [(qA, .inr (0, [.ref qA_ring, .ref qA_buffer, .int A_firstPlace_1, .int A_forcedPlace_1, .int A_endPlace_1, .int A_wordsToFailure_1, .int A_opened_1])), (qA_ring, .inl (cA_ring, 65536, .inl A_ring_1)), (qA_buffer, .inl (cA_buffer, 200, .inl A_buffer_1)), (qO, .inl (cO, 1, .inr (.inl (vp_updL O_v (0 : Int32).toNatClampNeg r_1.toInt64))))] := hD
    refine lv_goto (tgt := 25) hx hb dL_append_14 (by decide) ?_
    refine lv_iconst (v := (0 : Int32)) hx hb dL_append_25 (by decide) ?_
    subst hQQ
    refine W.widen (k := 3) (n := 18) (Nat.le_of_ble_eq_true rfl) (Nat.le_of_ble_eq_true rfl) ?_
    exact W.iret (v := (0 : Int32)) hx hb hr (fun t ht hW => ⟨⟨(0 : Int32), (A_ring_1, A_buffer_1, A_firstPlace_1, A_forcedPlace_1, A_endPlace_1, A_wordsToFailure_1, A_opened_1, vp_updL O_v (0 : Int32).toNatClampNeg r_1.toInt64), rfl, hw, by rw [ht]; exact hP, va_K.moved hW.alike hK, hD⟩, hS.F ht⟩) hS.2.2 dL_append_26
def wp_L_back (post : Int32 → St_AO → Prop) (x1 : Int32) (x2 : Int32) (x3 : Int32) (A_ring : Nat → Int32) (A_buffer : Nat → Int32) (A_firstPlace : Int32) (A_forcedPlace : Int32) (A_endPlace : Int32) (A_wordsToFailure : Int32) (A_opened : Int32) (O_v : Nat → Int64) : Prop :=
  wp_X0_back (fun r_1 u_1 => match u_1 with | (A_ring_1, A_buffer_1, A_firstPlace_1, A_forcedPlace_1, A_endPlace_1, A_wordsToFailure_1, A_opened_1) => vp_in (0 : Int32) 1 ∧ (post (0 : Int32) (A_ring_1, A_buffer_1, A_firstPlace_1, A_forcedPlace_1, A_endPlace_1, A_wordsToFailure_1, A_opened_1, vp_updL O_v (0 : Int32).toNatClampNeg r_1.toInt64))) (fun E9 u9 => match u9 with | (A_ring_x1, A_buffer_x1, A_firstPlace_x1, A_forcedPlace_x1, A_endPlace_x1, A_wordsToFailure_x1, A_opened_x1) => (E9 = "java/lang/IllegalStateException" ∧ post (1 : Int32) (A_ring_x1, A_buffer_x1, A_firstPlace_x1, A_forcedPlace_x1, A_endPlace_x1, A_wordsToFailure_x1, A_opened_x1, O_v)) ∨ (E9 = "java/lang/IllegalArgumentException" ∧ post (2 : Int32) (A_ring_x1, A_buffer_x1, A_firstPlace_x1, A_forcedPlace_x1, A_endPlace_x1, A_wordsToFailure_x1, A_opened_x1, O_v))) x1 x2 x3 A_ring A_buffer A_firstPlace A_forcedPlace A_endPlace A_wordsToFailure A_opened
set_option maxHeartbeats 4000000 in
set_option maxRecDepth 100000 in
theorem met_L_back (l : Launch) (hl9 : l.stackTraces = false) (dC : Nat → ClassId) (dI : Nat → Nat → Nat) (qA qA_ring qA_buffer qO : Nat) (cA_ring cA_buffer cO : ClassId) (sz : Nat) (A_ring : Nat → Int32) (A_buffer : Nat → Int32) (A_firstPlace : Int32) (A_forcedPlace : Int32) (A_endPlace : Int32) (A_wordsToFailure : Int32) (A_opened : Int32) (O_v : Nat → Int64) (x1 : Int32) (x2 : Int32) (x3 : Int32) (post : Int32 → St_AO → Prop) (hw : wp_L_back post x1 x2 x3 A_ring A_buffer A_firstPlace A_forcedPlace A_endPlace A_wordsToFailure A_opened O_v) :
    Met l yL_back wsL_back ({ frames := 8, cells := 3, slots := 18, locals := 140 } : Room) (pcX_AO dC dI qA qA_ring qA_buffer qO cA_ring cA_buffer cO sz A_ring A_buffer A_firstPlace A_forcedPlace A_endPlace A_wordsToFailure A_opened O_v [.ref qA, .int x1, .int x2, .int x3, .ref qO]) (va_Qi post (at_AO dC dI (va_A [(qA, .inr (0, [.ref qA_ring, .ref qA_buffer, .int A_firstPlace, .int A_forcedPlace, .int A_endPlace, .int A_wordsToFailure, .int A_opened])), (qA_ring, .inl (cA_ring, 65536, .inl A_ring)), (qA_buffer, .inl (cA_buffer, 200, .inl A_buffer)), (qO, .inl (cO, 1, .inr (.inl O_v)))] sz) qA qA_ring qA_buffer qO cA_ring cA_buffer cO) (va_A [(qA, .inr (0, [.ref qA_ring, .ref qA_buffer, .int A_firstPlace, .int A_forcedPlace, .int A_endPlace, .int A_wordsToFailure, .int A_opened])), (qA_ring, .inl (cA_ring, 65536, .inl A_ring)), (qA_buffer, .inl (cA_buffer, 200, .inl A_buffer)), (qO, .inl (cO, 1, .inr (.inl O_v)))] sz)) 3 18 (va_A [(qA, .inr (0, [.ref qA_ring, .ref qA_buffer, .int A_firstPlace, .int A_forcedPlace, .int A_endPlace, .int A_wordsToFailure, .int A_opened])), (qA_ring, .inl (cA_ring, 65536, .inl A_ring)), (qA_buffer, .inl (cA_buffer, 200, .inl A_buffer)), (qO, .inl (cO, 1, .inr (.inl O_v)))] sz) := by
  refine va_MetW (cc := cL_back) (maxL := 6) (ret := (some .int)) (by decide) rfl ?_
  intro p e s m args below meth c s₁ B hml hv
  obtain ⟨hav, hsz, hP, hK, hD0, hXW0⟩ := hv
  have hx := B.exec
  have hb := B.bytes
  have hr := B.returns
  have hts := atoms_spec (ws := wsL_back) B.pre
  have hbg : ∀ w ∈ bigW, w.before args s = true := fun w h => hts w (List.mem_cons_of_mem _ h)
  have hown : s.vm.findClass RL = some m.cls := findClass_of_methodNamed B.named
  have hlocks := B.notSynchronized
  have hTab : c.exceptionTable.toList = tableOf [(0, 12, 15, 13), (0, 12, 19, 24)] := vx_table (x := yL_back) B (hts _ List.mem_cons_self)
  subst hsz
  have hD := hD0.self (sz := s.heap.size)
  generalize hAe : va_A [(qA, .inr (0, [.ref qA_ring, .ref qA_buffer, .int A_firstPlace, .int A_forcedPlace, .int A_endPlace, .int A_wordsToFailure, .int A_opened])), (qA_ring, .inl (cA_ring, 65536, .inl A_ring)), (qA_buffer, .inl (cA_buffer, 200, .inl A_buffer)), (qO, .inl (cO, 1, .inr (.inl O_v)))] s.heap.size = A at hD hXW0 ⊢
  have hA : ∀ q : Nat, s.heap.size ≤ q → A q := fun q h => by rw [← hAe]; exact Or.inr h
  have hS : va_S A s.heap s.heap [] := va_S.rf
  have hP : va_P (dC, dI) vwCl [(qA, .inr (0, [.ref qA_ring, .ref qA_buffer, .int A_firstPlace, .int A_forcedPlace, .int A_endPlace, .int A_wordsToFailure, .int A_opened])), (qA_ring, .inl (cA_ring, 65536, .inl A_ring)), (qA_buffer, .inl (cA_buffer, 200, .inl A_buffer)), (qO, .inl (cO, 1, .inr (.inl O_v)))] s.heap := hP
  generalize hQQ : MQ below (va_Qi post (at_AO dC dI A qA qA_ring qA_buffer qO cA_ring cA_buffer cO) A) args s 3 18 A = QQ
  have hl := lv_entry ([.ref qA, .int x1, .int x2, .int x3, .ref qO]) (n := 6) (Nat.le_of_ble_eq_true rfl)
  rw [show entryFrame m args 6 = entryFrame m ([.ref qA, .int x1, .int x2, .int x3, .ref qO] : List Value).toArray 6 by rw [hav], lg_entry_eq]
  generalize (lg_sl ([.ref qA, .int x1, .int x2, .int x3, .ref qO]) ++ List.replicate (6 - (lg_sl ([.ref qA, .int x1, .int x2, .int x3, .ref qO])).length) Slot.unset).toArray = ls at hl ⊢
  have hl : lv_has ls 6 [(0, .ref qA), (1, .int x1), (2, .int x2), (3, .int x3), (4, .ref qO)] := hl
  unfold wp_L_back at hw
  refine lv_aload hx hb dL_back_0 (lv_at hl 4 rfl) ?_
  refine lv_iconst (v := (0 : Int32)) hx hb dL_back_2 (by decide) ?_
  refine lv_aload_n hx hb dL_back_3 rfl (lv_at hl 0 rfl) ?_
  refine lv_iload_n hx hb dL_back_4 rfl (lv_at hl 1 rfl) ?_
  refine lv_iload_n hx hb dL_back_5 rfl (lv_at hl 2 rfl) ?_
  refine lv_iload_n hx hb dL_back_6 rfl (lv_at hl 3 rfl) ?_
  have hPc := hP.sub (ws' := [(qA, .inr (0, [.ref qA_ring, .ref qA_buffer, .int A_firstPlace, .int A_forcedPlace, .int A_endPlace, .int A_wordsToFailure, .int A_opened])), (qA_ring, .inl (cA_ring, 65536, .inl A_ring)), (qA_buffer, .inl (cA_buffer, 200, .inl A_buffer))]) [0, 1, 2] rfl
  have hKc := hK.sub (tys' := [(cA_ring, .int), (cA_buffer, .int)]) [0, 1] rfl
  have hDc := hD.sub (ws' := [(qA, .inr (0, [.ref qA_ring, .ref qA_buffer, .int A_firstPlace, .int A_forcedPlace, .int A_endPlace, .int A_wordsToFailure, .int A_opened])), (qA_ring, .inl (cA_ring, 65536, .inl A_ring)), (qA_buffer, .inl (cA_buffer, 200, .inl A_buffer))]) [0, 1, 2] (by decide) rfl
  have hFc := va_free (wc := [(qA, .inr (0, [.ref qA_ring, .ref qA_buffer, .int A_firstPlace, .int A_forcedPlace, .int A_endPlace, .int A_wordsToFailure, .int A_opened])), (qA_ring, .inl (cA_ring, 65536, .inl A_ring)), (qA_buffer, .inl (cA_buffer, 200, .inl A_buffer))]) hD hS hA [0, 1, 2] rfl
  refine vx_calli (vx_runV (As := [.int x1, .int x2, .int x3]) (rest := [.int (0 : Int32), .ref qO]) ⟨hx, hb, hml, hown, hbg⟩ (met_X0_back l hl9 dC dI qA qA_ring qA_buffer cA_ring cA_buffer s.heap.size A_ring A_buffer A_firstPlace A_forcedPlace A_endPlace A_wordsToFailure A_opened x1 x2 x3 _ _ hw) (cwV 3 hbg g_RL_64 rfl rfl rfl (by decide +kernel) ⟨Nat.le_of_ble_eq_true rfl, Nat.le_of_ble_eq_true rfl⟩) ⟨pcX_A_b _ _ _ _ _ _ _ _ _ _ _ _ _ _ _ _, va_recv hK hPc (ci := 0) (q0 := 0) rfl rfl, fun U hU hW => ⟨rfl, by rw [hU], by rw [hU]; exact hPc, va_K.moved hW.alike hKc, hDc.weaken (fun _ _ _ _ => trivial), XW.go hXW0 hS hFc hU hW⟩⟩ rfl rfl hl.1 rfl (lv_room (Nat.le_of_ble_eq_true rfl)) dL_back_7 ⟨Nat.le_of_ble_eq_true rfl, Nat.le_of_ble_eq_true rfl⟩) hS (fun q _ h => hFc q h) hFc (fun q _ h => hFc q h) (fun E9 ce9 q9 u9 t9 H_1 locs ht hvm hpx hBX hz1 hk1 hS hce hcv hcl => ?_) (fun r_1 u_1 t_1 H_1 locs ht hvm hw hB hz1 hk1 hS => ?_)
  · obtain ⟨E8, A_ring_x1, A_buffer_x1, A_firstPlace_x1, A_forcedPlace_x1, A_endPlace_x1, A_wordsToFailure_x1, A_opened_x1⟩ := u9
    obtain ⟨rfl, hP1, hK1, hD1⟩ := hBX
    rw [ht] at hP1
    obtain ⟨hP, hD⟩ := va_join (wr := [(qO, .inl (cO, 1, .inr (.inl O_v)))]) (w1 := [(qA, .inr (0, [.ref qA_ring, .ref qA_buffer, .int A_firstPlace_x1, .int A_forcedPlace_x1, .int A_endPlace_x1, .int A_wordsToFailure_x1, .int A_opened_x1])), (qA_ring, .inl (cA_ring, 65536, .inl A_ring_x1)), (qA_buffer, .inl (cA_buffer, 200, .inl A_buffer_x1))]) hP hD [0, 1, 2] [3] rfl rfl (by decide) (by decide) hk1 hFc hP1 hD1
    have hP : va_P (dC, dI) vwCl [(qA, .inr (0, [.ref qA_ring, .ref qA_buffer, .int A_firstPlace_x1, .int A_forcedPlace_x1, .int A_endPlace_x1, .int A_wordsToFailure_x1, .int A_opened_x1])), (qA_ring, .inl (cA_ring, 65536, .inl A_ring_x1)), (qA_buffer, .inl (cA_buffer, 200, .inl A_buffer_x1)), (qO, .inl (cO, 1, .inr (.inl O_v)))] H_1 := hP.sub [1, 2, 3, 0] rfl
    have hD : va_D A [(qA, .inr (0, [.ref qA_ring, .ref qA_buffer, .int A_firstPlace_x1, .int A_forcedPlace_x1, .int A_endPlace_x1, .int A_wordsToFailure_x1, .int A_opened_x1])), (qA_ring, .inl (cA_ring, 65536, .inl A_ring_x1)), (qA_buffer, .inl (cA_buffer, 200, .inl A_buffer_x1)), (qO, .inl (cO, 1, .inr (.inl O_v)))] := hD.sub [1, 2, 3, 0] (by decide) rfl
    try dsimp only at hpx
    rcases hpx with ⟨rfl, hw⟩ | ⟨rfl, hw⟩
    · refine vx_widen (k := 3) (n := 18) (Nat.le_of_ble_eq_true rfl) (Nat.le_of_ble_eq_true rfl) ?_
      refine vx_catch (own := RL) (name := "java/lang/IllegalStateException") (E := "java/lang/IllegalStateException") hown [] ⟨0, 12, 15, 13⟩ [⟨0, 12, 19, 24⟩] (by rw [hTab]; rfl) (fun z hz => nomatch hz) (by decide) (by decide) (hbg _ kw_114) (va_Nw.use rfl (hXW0.1 "java/lang/IllegalStateException" (by decide))) hce hcv hcl ?_
      refine lv_astore (lv' := [(5, .ref q9), (0, .ref qA), (1, .int x1), (2, .int x2), (3, .int x3), (4, .ref qO)]) hx hb dL_back_15 hl (by decide) rfl (fun ls hl => ?_)
      refine lv_iconst (v := (1 : Int32)) hx hb dL_back_17 (by decide) ?_
      subst hQQ
      refine W.widen (k := 3) (n := 18) (Nat.le_of_ble_eq_true rfl) (Nat.le_of_ble_eq_true rfl) ?_
      exact W.iret (v := (1 : Int32)) hx hb hr (fun t ht hW => ⟨⟨(1 : Int32), (A_ring_x1, A_buffer_x1, A_firstPlace_x1, A_forcedPlace_x1, A_endPlace_x1, A_wordsToFailure_x1, A_opened_x1, O_v), rfl, hw, by rw [ht]; exact hP, va_K.moved hW.alike hK, hD⟩, hS.F ht⟩) hS.2.2 dL_back_18
    · refine vx_widen (k := 3) (n := 18) (Nat.le_of_ble_eq_true rfl) (Nat.le_of_ble_eq_true rfl) ?_
      refine vx_catch (own := RL) (name := "java/lang/IllegalArgumentException") (E := "java/lang/IllegalArgumentException") hown [⟨0, 12, 15, 13⟩] ⟨0, 12, 19, 24⟩ [] (by rw [hTab]; rfl) (by
        intro z hz
        rcases List.mem_cons.mp hz with rfl | hz
        · exact Or.inr ⟨by decide, "java/lang/IllegalStateException", hbg _ kw_114, hXW0.2.2.2.1 ("java/lang/IllegalArgumentException", "java/lang/IllegalStateException") (by decide)⟩
        cases hz) (by decide) (by decide) (hbg _ kw_115) (va_Nw.use rfl (hXW0.1 "java/lang/IllegalArgumentException" (by decide))) hce hcv hcl ?_
      refine lv_astore (lv' := [(5, .ref q9), (0, .ref qA), (1, .int x1), (2, .int x2), (3, .int x3), (4, .ref qO)]) hx hb dL_back_19 hl (by decide) rfl (fun ls hl => ?_)
      refine lv_iconst (v := (2 : Int32)) hx hb dL_back_21 (by decide) ?_
      subst hQQ
      refine W.widen (k := 3) (n := 18) (Nat.le_of_ble_eq_true rfl) (Nat.le_of_ble_eq_true rfl) ?_
      exact W.iret (v := (2 : Int32)) hx hb hr (fun t ht hW => ⟨⟨(2 : Int32), (A_ring_x1, A_buffer_x1, A_firstPlace_x1, A_forcedPlace_x1, A_endPlace_x1, A_wordsToFailure_x1, A_opened_x1, O_v), rfl, hw, by rw [ht]; exact hP, va_K.moved hW.alike hK, hD⟩, hS.F ht⟩) hS.2.2 dL_back_22
  · obtain ⟨A_ring_1, A_buffer_1, A_firstPlace_1, A_forcedPlace_1, A_endPlace_1, A_wordsToFailure_1, A_opened_1⟩ := u_1
    obtain ⟨hP1, hK1, hD1⟩ := hB
    rw [ht] at hP1
    try dsimp only at hw
    obtain ⟨hP, hD⟩ := va_join (wr := [(qO, .inl (cO, 1, .inr (.inl O_v)))]) (w1 := [(qA, .inr (0, [.ref qA_ring, .ref qA_buffer, .int A_firstPlace_1, .int A_forcedPlace_1, .int A_endPlace_1, .int A_wordsToFailure_1, .int A_opened_1])), (qA_ring, .inl (cA_ring, 65536, .inl A_ring_1)), (qA_buffer, .inl (cA_buffer, 200, .inl A_buffer_1))]) hP hD [0, 1, 2] [3] rfl rfl (by decide) (by decide) hk1 hFc hP1 hD1
    have hP : va_P (dC, dI) vwCl [(qA, .inr (0, [.ref qA_ring, .ref qA_buffer, .int A_firstPlace_1, .int A_forcedPlace_1, .int A_endPlace_1, .int A_wordsToFailure_1, .int A_opened_1])), (qA_ring, .inl (cA_ring, 65536, .inl A_ring_1)), (qA_buffer, .inl (cA_buffer, 200, .inl A_buffer_1)), (qO, .inl (cO, 1, .inr (.inl O_v)))] H_1 := hP.sub [1, 2, 3, 0] rfl
    have hD : va_D A [(qA, .inr (0, [.ref qA_ring, .ref qA_buffer, .int A_firstPlace_1, .int A_forcedPlace_1, .int A_endPlace_1, .int A_wordsToFailure_1, .int A_opened_1])), (qA_ring, .inl (cA_ring, 65536, .inl A_ring_1)), (qA_buffer, .inl (cA_buffer, 200, .inl A_buffer_1)), (qO, .inl (cO, 1, .inr (.inl O_v)))] := hD.sub [1, 2, 3, 0] (by decide) rfl
    refine W.widen (k := 3) (n := 18) (Nat.le_of_ble_eq_true rfl) (Nat.le_of_ble_eq_true rfl) ?_
    refine lv_i2l (v := r_1.toInt64) hx hb dL_back_10 rfl ?_
    obtain ⟨h_2, hw⟩ := hw
    refine va_last hx hb hK hP hD hS 3 2 rfl rfl h_2 dL_back_11 (fun H_3 locs hP hD hS => ?_)
    have hP : va_P (dC, dI) vwCl [(qA, .inr (0, [.ref qA_ring, .ref qA_buffer, .int A_firstPlace_1, .int A_forcedPlace_1, .int A_endPlace_1, .int A_wordsToFailure_1, .int A_opened_1])), (qA_ring, .inl (cA_ring, 65536, .inl A_ring_1)), (qA_buffer, .inl (cA_buffer, 200, .inl A_buffer_1)), (qO, .inl (cO, 1, .inr (.inl (vp_updL O_v (0 : Int32).toNatClampNeg r_1.toInt64))))] H_3 := hP
    have hD : va_D A [(qA, .inr (0, [.ref qA_ring, .ref qA_buffer, .int A_firstPlace_1, .int A_forcedPlace_1, .int A_endPlace_1, .int A_wordsToFailure_1, .int A_opened_1])), (qA_ring, .inl (cA_ring, 65536, .inl A_ring_1)), (qA_buffer, .inl (cA_buffer, 200, .inl A_buffer_1)), (qO, .inl (cO, 1, .inr (.inl (vp_updL O_v (0 : Int32).toNatClampNeg r_1.toInt64))))] := hD
    refine lv_goto (tgt := 23) hx hb dL_back_12 (by decide) ?_
    refine lv_iconst (v := (0 : Int32)) hx hb dL_back_23 (by decide) ?_
    subst hQQ
    refine W.widen (k := 3) (n := 18) (Nat.le_of_ble_eq_true rfl) (Nat.le_of_ble_eq_true rfl) ?_
    exact W.iret (v := (0 : Int32)) hx hb hr (fun t ht hW => ⟨⟨(0 : Int32), (A_ring_1, A_buffer_1, A_firstPlace_1, A_forcedPlace_1, A_endPlace_1, A_wordsToFailure_1, A_opened_1, vp_updL O_v (0 : Int32).toNatClampNeg r_1.toInt64), rfl, hw, by rw [ht]; exact hP, va_K.moved hW.alike hK, hD⟩, hS.F ht⟩) hS.2.2 dL_back_24
