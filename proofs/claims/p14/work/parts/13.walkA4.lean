def wp_X0_set (post : St_A → Prop) (px : String → St_A → Prop) (x1 : Int32) (x2 : Int32) (A_ring : Nat → Int32) (A_buffer : Nat → Int32) (A_firstPlace : Int32) (A_forcedPlace : Int32) (A_endPlace : Int32) (A_wordsToFailure : Int32) (A_opened : Int32) : Prop :=
  wp_X0_requireOpen (fun u_1 => match u_1 with | (A_ring_1, A_buffer_1, A_firstPlace_1, A_forcedPlace_1, A_endPlace_1, A_wordsToFailure_1, A_opened_1) => ((x1 < (0 : Int32) → px "java/lang/IndexOutOfBoundsException" (A_ring_1, A_buffer_1, A_firstPlace_1, A_forcedPlace_1, A_endPlace_1, A_wordsToFailure_1, A_opened_1)) ∧ (¬ x1 < (0 : Int32) → ((x1 < (200 : Int32) → vp_in x1 200 ∧ (post (A_ring_1, upd A_buffer_1 x1.toNatClampNeg x2, A_firstPlace_1, A_forcedPlace_1, A_endPlace_1, A_wordsToFailure_1, A_opened_1))) ∧ (¬ x1 < (200 : Int32) → px "java/lang/IndexOutOfBoundsException" (A_ring_1, A_buffer_1, A_firstPlace_1, A_forcedPlace_1, A_endPlace_1, A_wordsToFailure_1, A_opened_1)))))) px A_ring A_buffer A_firstPlace A_forcedPlace A_endPlace A_wordsToFailure A_opened
set_option maxHeartbeats 4000000 in
set_option maxRecDepth 100000 in
theorem met_X0_set (l : Launch) (hl9 : l.stackTraces = false) (dC : Nat → ClassId) (dI : Nat → Nat → Nat) (qA qA_ring qA_buffer : Nat) (cA_ring cA_buffer : ClassId) (sz : Nat) (A_ring : Nat → Int32) (A_buffer : Nat → Int32) (A_firstPlace : Int32) (A_forcedPlace : Int32) (A_endPlace : Int32) (A_wordsToFailure : Int32) (A_opened : Int32) (x1 : Int32) (x2 : Int32) (post : St_A → Prop) (px : String → St_A → Prop) (hw : wp_X0_set post px x1 x2 A_ring A_buffer A_firstPlace A_forcedPlace A_endPlace A_wordsToFailure A_opened) :
    vx_Met l yX0_set wsX0_set ({ frames := 7, cells := 2, slots := 12, locals := 116 } : Room) (pcX_A dC dI qA qA_ring qA_buffer cA_ring cA_buffer sz A_ring A_buffer A_firstPlace A_forcedPlace A_endPlace A_wordsToFailure A_opened [.ref qA, .int x1, .int x2]) (va_Qv post (at_A dC dI (va_A [(qA, .inr (0, [.ref qA_ring, .ref qA_buffer, .int A_firstPlace, .int A_forcedPlace, .int A_endPlace, .int A_wordsToFailure, .int A_opened])), (qA_ring, .inl (cA_ring, 65536, .inl A_ring)), (qA_buffer, .inl (cA_buffer, 200, .inl A_buffer))] sz) qA qA_ring qA_buffer cA_ring cA_buffer) (va_A [(qA, .inr (0, [.ref qA_ring, .ref qA_buffer, .int A_firstPlace, .int A_forcedPlace, .int A_endPlace, .int A_wordsToFailure, .int A_opened])), (qA_ring, .inl (cA_ring, 65536, .inl A_ring)), (qA_buffer, .inl (cA_buffer, 200, .inl A_buffer))] sz)) (vx_X (fun u => px u.1 u.2) (atx_A dC dI (va_A [(qA, .inr (0, [.ref qA_ring, .ref qA_buffer, .int A_firstPlace, .int A_forcedPlace, .int A_endPlace, .int A_wordsToFailure, .int A_opened])), (qA_ring, .inl (cA_ring, 65536, .inl A_ring)), (qA_buffer, .inl (cA_buffer, 200, .inl A_buffer))] sz) qA qA_ring qA_buffer cA_ring cA_buffer) (va_A [(qA, .inr (0, [.ref qA_ring, .ref qA_buffer, .int A_firstPlace, .int A_forcedPlace, .int A_endPlace, .int A_wordsToFailure, .int A_opened])), (qA_ring, .inl (cA_ring, 65536, .inl A_ring)), (qA_buffer, .inl (cA_buffer, 200, .inl A_buffer))] sz)) 2 12 (va_A [(qA, .inr (0, [.ref qA_ring, .ref qA_buffer, .int A_firstPlace, .int A_forcedPlace, .int A_endPlace, .int A_wordsToFailure, .int A_opened])), (qA_ring, .inl (cA_ring, 65536, .inl A_ring)), (qA_buffer, .inl (cA_buffer, 200, .inl A_buffer))] sz) := by
  refine vx_ofW (cc := cX0_set) (maxL := 3) (ret := none) (by decide) rfl ?_
  intro p e s m args below meth c s₁ B hml hEx hv
  obtain ⟨hav, hsz, hP, hK, hD0, hXW0⟩ := hv
  have hx := B.exec
  have hb := B.bytes
  have hr := B.returns
  have hts := atoms_spec (ws := wsX0_set) B.pre
  have hbg : ∀ w ∈ bigW, w.before args s = true := fun w h => hts w (List.mem_cons_of_mem _ h)
  have hown : s.vm.findClass RX0 = some m.cls := findClass_of_methodNamed B.named
  have hlocks := B.notSynchronized
  subst hsz
  have hD := hD0.self (sz := s.heap.size)
  generalize hAe : va_A [(qA, .inr (0, [.ref qA_ring, .ref qA_buffer, .int A_firstPlace, .int A_forcedPlace, .int A_endPlace, .int A_wordsToFailure, .int A_opened])), (qA_ring, .inl (cA_ring, 65536, .inl A_ring)), (qA_buffer, .inl (cA_buffer, 200, .inl A_buffer))] s.heap.size = A at hD hXW0 ⊢
  have hA : ∀ q : Nat, s.heap.size ≤ q → A q := fun q h => by rw [← hAe]; exact Or.inr h
  have hS : va_S A s.heap s.heap [] := va_S.rf
  have hP : va_P (dC, dI) vwCl [(qA, .inr (0, [.ref qA_ring, .ref qA_buffer, .int A_firstPlace, .int A_forcedPlace, .int A_endPlace, .int A_wordsToFailure, .int A_opened])), (qA_ring, .inl (cA_ring, 65536, .inl A_ring)), (qA_buffer, .inl (cA_buffer, 200, .inl A_buffer))] s.heap := hP
  generalize hQQ : vx_MQ below (va_Qv post (at_A dC dI A qA qA_ring qA_buffer cA_ring cA_buffer) A) (vx_X (fun u => px u.1 u.2) (atx_A dC dI A qA qA_ring qA_buffer cA_ring cA_buffer) A) args s 2 12 A = QQ
  have hl := lv_entry ([.ref qA, .int x1, .int x2]) (n := 3) (Nat.le_of_ble_eq_true rfl)
  rw [show entryFrame m args 3 = entryFrame m ([.ref qA, .int x1, .int x2] : List Value).toArray 3 by rw [hav], lg_entry_eq]
  generalize (lg_sl ([.ref qA, .int x1, .int x2]) ++ List.replicate (3 - (lg_sl ([.ref qA, .int x1, .int x2])).length) Slot.unset).toArray = ls at hl ⊢
  have hl : lv_has ls 3 [(0, .ref qA), (1, .int x1), (2, .int x2)] := hl
  unfold wp_X0_set at hw
  refine lv_aload_n hx hb dX0_set_0 rfl (lv_at hl 0 rfl) ?_
  have hFc := va_free (wc := [(qA, .inr (0, [.ref qA_ring, .ref qA_buffer, .int A_firstPlace, .int A_forcedPlace, .int A_endPlace, .int A_wordsToFailure, .int A_opened])), (qA_ring, .inl (cA_ring, 65536, .inl A_ring)), (qA_buffer, .inl (cA_buffer, 200, .inl A_buffer))]) hD hS hA [0, 1, 2] rfl
  refine vx_callv (vx_runV (As := []) (rest := []) ⟨hx, hb, hml, hown, hbg⟩ (met_X0_requireOpen l hl9 dC dI qA qA_ring qA_buffer cA_ring cA_buffer s.heap.size A_ring A_buffer A_firstPlace A_forcedPlace A_endPlace A_wordsToFailure A_opened  _ _ hw) (cwV 0 hbg g_RX0_34 rfl rfl rfl (by decide +kernel) ⟨Nat.le_of_ble_eq_true rfl, Nat.le_of_ble_eq_true rfl⟩) ⟨pcX_A_b _ _ _ _ _ _ _ _ _ _ _ _ _ _ _ _, va_recv hK hP (ci := 0) (q0 := 0) rfl rfl, fun U hU hW => ⟨rfl, by rw [hU], by rw [hU]; exact hP, va_K.moved hW.alike hK, hD.weaken (fun _ _ _ _ => trivial), XW.go hXW0 hS hFc hU hW⟩⟩ rfl rfl hl.1 rfl (lv_room (Nat.le_of_ble_eq_true rfl)) dX0_set_1 ⟨Nat.le_of_ble_eq_true rfl, Nat.le_of_ble_eq_true rfl⟩) hS (fun q _ h => hFc q h) hFc (fun q _ h => hFc q h) (fun E9 ce9 q9 u9 t9 H_1 locs ht hvm hpx hBX hz1 hk1 hS hce hcv hcl => ?_) (fun u_1 t_1 H_1 locs ht hvm hw hB hz1 hk1 hS => ?_)
  · obtain ⟨E8, A_ring_x1, A_buffer_x1, A_firstPlace_x1, A_forcedPlace_x1, A_endPlace_x1, A_wordsToFailure_x1, A_opened_x1⟩ := u9
    obtain ⟨rfl, hP1, hK1, hD1⟩ := hBX
    rw [ht] at hP1
    have hP : va_P (dC, dI) vwCl [(qA, .inr (0, [.ref qA_ring, .ref qA_buffer, .int A_firstPlace_x1, .int A_forcedPlace_x1, .int A_endPlace_x1, .int A_wordsToFailure_x1, .int A_opened_x1])), (qA_ring, .inl (cA_ring, 65536, .inl A_ring_x1)), (qA_buffer, .inl (cA_buffer, 200, .inl A_buffer_x1))] H_1 := hP1
    have hD : va_D A [(qA, .inr (0, [.ref qA_ring, .ref qA_buffer, .int A_firstPlace_x1, .int A_forcedPlace_x1, .int A_endPlace_x1, .int A_wordsToFailure_x1, .int A_opened_x1])), (qA_ring, .inl (cA_ring, 65536, .inl A_ring_x1)), (qA_buffer, .inl (cA_buffer, 200, .inl A_buffer_x1))] := hD1.weaken (fun _ _ _ h => hFc _ h)
    subst hQQ
    exact vx_out (fun x hx => (hEx x hx).elim) hlocks hce hcv hcl (fun t ht ha => ⟨(E9, (A_ring_x1, A_buffer_x1, A_firstPlace_x1, A_forcedPlace_x1, A_endPlace_x1, A_wordsToFailure_x1, A_opened_x1)), hpx, ⟨rfl, by rw [ht]; exact hP, va_K.moved ha hK, hD⟩, hS.F ht⟩) hS.2.2 (Nat.le_of_ble_eq_true rfl) (Nat.le_of_ble_eq_true rfl)
  · obtain ⟨A_ring_1, A_buffer_1, A_firstPlace_1, A_forcedPlace_1, A_endPlace_1, A_wordsToFailure_1, A_opened_1⟩ := u_1
    obtain ⟨hP1, hK1, hD1⟩ := hB
    rw [ht] at hP1
    try dsimp only at hw
    have hP : va_P (dC, dI) vwCl [(qA, .inr (0, [.ref qA_ring, .ref qA_buffer, .int A_firstPlace_1, .int A_forcedPlace_1, .int A_endPlace_1, .int A_wordsToFailure_1, .int A_opened_1])), (qA_ring, .inl (cA_ring, 65536, .inl A_ring_1)), (qA_buffer, .inl (cA_buffer, 200, .inl A_buffer_1))] H_1 := hP1
    have hD : va_D A [(qA, .inr (0, [.ref qA_ring, .ref qA_buffer, .int A_firstPlace_1, .int A_forcedPlace_1, .int A_endPlace_1, .int A_wordsToFailure_1, .int A_opened_1])), (qA_ring, .inl (cA_ring, 65536, .inl A_ring_1)), (qA_buffer, .inl (cA_buffer, 200, .inl A_buffer_1))] := hD1.weaken (fun _ _ _ h => hFc _ h)
    refine W.widen (k := 1) (n := 6) (Nat.le_of_ble_eq_true rfl) (Nat.le_of_ble_eq_true rfl) ?_
    refine lv_iload_n hx hb dX0_set_4 rfl (lv_at hl 1 rfl) ?_
    refine lv_if_lt (tgt := 17) hx hb dX0_set_5 (by decide) (fun c9 => ?_) (fun c9 => ?_)
    · have hw := hw.1 c9
      subst hQQ
      obtain ⟨sa, hsa⟩ := hXW0.2.2.1 (RX0, 39, "the buffer has words 0 .. 199") (by decide +kernel)
      exact vx_throwS (own := RX0) (cls := "java/lang/IndexOutOfBoundsException") (names := ["java/lang/RuntimeException", "java/lang/Exception"]) hx hb hl9 hown (by decide +kernel) (by decide +kernel) (hbg _ kw_81) (hbg _ kw_82) hsa (vx_hat (L := vx_atS RX0 41 "java/lang/IndexOutOfBoundsException" ["java/lang/RuntimeException", "java/lang/Exception"]) (B := [.castable "java/lang/IndexOutOfBoundsException" "java/lang/IndexOutOfBoundsException", .declares ⟨"java/lang/RuntimeException", "<init>", "(Ljava/lang/String;)V"⟩, .declares ⟨"java/lang/Exception", "<init>", "(Ljava/lang/String;)V"⟩, .declares ⟨"java/lang/Throwable", "<init>", "(Ljava/lang/String;)V"⟩]) (fun w hw => hbg w (xa_RX0_41 w hw)) (by decide +kernel) (vx_c (va_Nw.use rfl (hXW0.1 "java/lang/IndexOutOfBoundsException" (by decide))) (vx_c (va_Nw.use rfl (hXW0.2.1 "java/lang/RuntimeException" (by decide))) (vx_c (va_Nw.use rfl (hXW0.2.1 "java/lang/Exception" (by decide))) (vx_c (va_Nw.use rfl (hXW0.2.1 "java/lang/Throwable" (by decide))) (vx_n)))))) (by decide +kernel) hXW0.2.2.2.2.1 hXW0.2.2.2.2.2 hS (hl.1.trans hml.symm) dX0_set_17 dX0_set_20 dX0_set_21 dX0_set_23 dX0_set_26 (fun x hx => (hEx x hx).elim) (Nat.le_of_ble_eq_true rfl) (Nat.le_of_ble_eq_true rfl) (Nat.le_of_ble_eq_true rfl) (Nat.le_of_ble_eq_true rfl) hlocks (fun t ha hsz hk => ⟨("java/lang/IndexOutOfBoundsException", (A_ring_1, A_buffer_1, A_firstPlace_1, A_forcedPlace_1, A_endPlace_1, A_wordsToFailure_1, A_opened_1)), hw, ⟨rfl, hP.kept (fun k q hq => hk q.1 (hP k q hq).lt), va_K.moved ha hK, hD⟩, Nat.le_trans hS.1 hsz, fun q h1 h2 => (hk q (Nat.lt_of_lt_of_le h1 hS.1)).trans (hS.2.1 q h1 h2)⟩) hS.2.2 (Nat.le_of_ble_eq_true rfl) (Nat.le_of_ble_eq_true rfl)
    · have hw := hw.2 c9
      refine lv_iload_n hx hb dX0_set_8 rfl (lv_at hl 1 rfl) ?_
      refine lv_aload_n hx hb dX0_set_9 rfl (lv_at hl 0 rfl) ?_
      refine va_get (D := (dC, dI)) (ci := 0) (v := .ref qA_buffer) (C := RX0) (T := TX0) (N := 7) hx hb hbg in_X0 hown hK hP 0 rfl rfl 1 (by decide) (hbg _ kw_46) (fun _ h9 => h9) rfl dX0_set_10 ?_
      refine va_alen (v := (200 : Int32)) hx hb hK hP 2 1 rfl rfl rfl dX0_set_13 ?_
      refine lv_icmp_lt (tgt := 27) hx hb dX0_set_14 (by decide) (fun c9 => ?_) (fun c9 => ?_)
      · have hw := hw.1 c9
        refine lv_aload_n hx hb dX0_set_27 rfl (lv_at hl 0 rfl) ?_
        refine va_get (D := (dC, dI)) (ci := 0) (v := .ref qA_buffer) (C := RX0) (T := TX0) (N := 7) hx hb hbg in_X0 hown hK hP 0 rfl rfl 1 (by decide) (hbg _ kw_46) (fun _ h9 => h9) rfl dX0_set_28 ?_
        refine lv_iload_n hx hb dX0_set_31 rfl (lv_at hl 1 rfl) ?_
        refine lv_iload_n hx hb dX0_set_32 rfl (lv_at hl 2 rfl) ?_
        obtain ⟨h_2, hw⟩ := hw
        refine va_iast hx hb hK hP hD hS 2 1 rfl rfl h_2 dX0_set_33 (fun H_3 locs hP hD hS => ?_)
        have hP : va_P (dC, dI) vwCl [(qA, .inr (0, [.ref qA_ring, .ref qA_buffer, .int A_firstPlace_1, .int A_forcedPlace_1, .int A_endPlace_1, .int A_wordsToFailure_1, .int A_opened_1])), (qA_ring, .inl (cA_ring, 65536, .inl A_ring_1)), (qA_buffer, .inl (cA_buffer, 200, .inl (upd A_buffer_1 x1.toNatClampNeg x2)))] H_3 := hP
        have hD : va_D A [(qA, .inr (0, [.ref qA_ring, .ref qA_buffer, .int A_firstPlace_1, .int A_forcedPlace_1, .int A_endPlace_1, .int A_wordsToFailure_1, .int A_opened_1])), (qA_ring, .inl (cA_ring, 65536, .inl A_ring_1)), (qA_buffer, .inl (cA_buffer, 200, .inl (upd A_buffer_1 x1.toNatClampNeg x2)))] := hD
        subst hQQ
        refine W.widen (k := 2) (n := 12) (Nat.le_of_ble_eq_true rfl) (Nat.le_of_ble_eq_true rfl) ?_
        refine vx_ret ?_
        exact W.vret hx hb hr (fun t ht hW => ⟨⟨(A_ring_1, upd A_buffer_1 x1.toNatClampNeg x2, A_firstPlace_1, A_forcedPlace_1, A_endPlace_1, A_wordsToFailure_1, A_opened_1), rfl, hw, by rw [ht]; exact hP, va_K.moved hW.alike hK, hD⟩, hS.F ht⟩) hS.2.2 dX0_set_34
      · have hw := hw.2 c9
        subst hQQ
        obtain ⟨sa, hsa⟩ := hXW0.2.2.1 (RX0, 39, "the buffer has words 0 .. 199") (by decide +kernel)
        exact vx_throwS (own := RX0) (cls := "java/lang/IndexOutOfBoundsException") (names := ["java/lang/RuntimeException", "java/lang/Exception"]) hx hb hl9 hown (by decide +kernel) (by decide +kernel) (hbg _ kw_81) (hbg _ kw_82) hsa (vx_hat (L := vx_atS RX0 41 "java/lang/IndexOutOfBoundsException" ["java/lang/RuntimeException", "java/lang/Exception"]) (B := [.castable "java/lang/IndexOutOfBoundsException" "java/lang/IndexOutOfBoundsException", .declares ⟨"java/lang/RuntimeException", "<init>", "(Ljava/lang/String;)V"⟩, .declares ⟨"java/lang/Exception", "<init>", "(Ljava/lang/String;)V"⟩, .declares ⟨"java/lang/Throwable", "<init>", "(Ljava/lang/String;)V"⟩]) (fun w hw => hbg w (xa_RX0_41 w hw)) (by decide +kernel) (vx_c (va_Nw.use rfl (hXW0.1 "java/lang/IndexOutOfBoundsException" (by decide))) (vx_c (va_Nw.use rfl (hXW0.2.1 "java/lang/RuntimeException" (by decide))) (vx_c (va_Nw.use rfl (hXW0.2.1 "java/lang/Exception" (by decide))) (vx_c (va_Nw.use rfl (hXW0.2.1 "java/lang/Throwable" (by decide))) (vx_n)))))) (by decide +kernel) hXW0.2.2.2.2.1 hXW0.2.2.2.2.2 hS (hl.1.trans hml.symm) dX0_set_17 dX0_set_20 dX0_set_21 dX0_set_23 dX0_set_26 (fun x hx => (hEx x hx).elim) (Nat.le_of_ble_eq_true rfl) (Nat.le_of_ble_eq_true rfl) (Nat.le_of_ble_eq_true rfl) (Nat.le_of_ble_eq_true rfl) hlocks (fun t ha hsz hk => ⟨("java/lang/IndexOutOfBoundsException", (A_ring_1, A_buffer_1, A_firstPlace_1, A_forcedPlace_1, A_endPlace_1, A_wordsToFailure_1, A_opened_1)), hw, ⟨rfl, hP.kept (fun k q hq => hk q.1 (hP k q hq).lt), va_K.moved ha hK, hD⟩, Nat.le_trans hS.1 hsz, fun q h1 h2 => (hk q (Nat.lt_of_lt_of_le h1 hS.1)).trans (hS.2.1 q h1 h2)⟩) hS.2.2 (Nat.le_of_ble_eq_true rfl) (Nat.le_of_ble_eq_true rfl)
def wp_X0_fill (post : St_A → Prop) (px : String → St_A → Prop) (x1 : Int32) (x2 : Int32) (A_ring : Nat → Int32) (A_buffer : Nat → Int32) (A_firstPlace : Int32) (A_forcedPlace : Int32) (A_endPlace : Int32) (A_wordsToFailure : Int32) (A_opened : Int32) : Prop :=
  wp_X0_requireOpen (fun u_1 => match u_1 with | (A_ring_1, A_buffer_1, A_firstPlace_1, A_forcedPlace_1, A_endPlace_1, A_wordsToFailure_1, A_opened_1) => wp_X0_fillBuffer (fun u_2 => match u_2 with | (A_ring_2, A_buffer_2, A_firstPlace_2, A_forcedPlace_2, A_endPlace_2, A_wordsToFailure_2, A_opened_2) => post (A_ring_2, A_buffer_2, A_firstPlace_2, A_forcedPlace_2, A_endPlace_2, A_wordsToFailure_2, A_opened_2)) x1 x2 A_ring_1 A_buffer_1 A_firstPlace_1 A_forcedPlace_1 A_endPlace_1 A_wordsToFailure_1 A_opened_1) px A_ring A_buffer A_firstPlace A_forcedPlace A_endPlace A_wordsToFailure A_opened
set_option maxHeartbeats 4000000 in
set_option maxRecDepth 100000 in
theorem met_X0_fill (l : Launch) (hl9 : l.stackTraces = false) (dC : Nat → ClassId) (dI : Nat → Nat → Nat) (qA qA_ring qA_buffer : Nat) (cA_ring cA_buffer : ClassId) (sz : Nat) (A_ring : Nat → Int32) (A_buffer : Nat → Int32) (A_firstPlace : Int32) (A_forcedPlace : Int32) (A_endPlace : Int32) (A_wordsToFailure : Int32) (A_opened : Int32) (x1 : Int32) (x2 : Int32) (post : St_A → Prop) (px : String → St_A → Prop) (hw : wp_X0_fill post px x1 x2 A_ring A_buffer A_firstPlace A_forcedPlace A_endPlace A_wordsToFailure A_opened) :
    vx_Met l yX0_fill wsX0_fill ({ frames := 7, cells := 1, slots := 6, locals := 116 } : Room) (pcX_A dC dI qA qA_ring qA_buffer cA_ring cA_buffer sz A_ring A_buffer A_firstPlace A_forcedPlace A_endPlace A_wordsToFailure A_opened [.ref qA, .int x1, .int x2]) (va_Qv post (at_A dC dI (va_A [(qA, .inr (0, [.ref qA_ring, .ref qA_buffer, .int A_firstPlace, .int A_forcedPlace, .int A_endPlace, .int A_wordsToFailure, .int A_opened])), (qA_ring, .inl (cA_ring, 65536, .inl A_ring)), (qA_buffer, .inl (cA_buffer, 200, .inl A_buffer))] sz) qA qA_ring qA_buffer cA_ring cA_buffer) (va_A [(qA, .inr (0, [.ref qA_ring, .ref qA_buffer, .int A_firstPlace, .int A_forcedPlace, .int A_endPlace, .int A_wordsToFailure, .int A_opened])), (qA_ring, .inl (cA_ring, 65536, .inl A_ring)), (qA_buffer, .inl (cA_buffer, 200, .inl A_buffer))] sz)) (vx_X (fun u => px u.1 u.2) (atx_A dC dI (va_A [(qA, .inr (0, [.ref qA_ring, .ref qA_buffer, .int A_firstPlace, .int A_forcedPlace, .int A_endPlace, .int A_wordsToFailure, .int A_opened])), (qA_ring, .inl (cA_ring, 65536, .inl A_ring)), (qA_buffer, .inl (cA_buffer, 200, .inl A_buffer))] sz) qA qA_ring qA_buffer cA_ring cA_buffer) (va_A [(qA, .inr (0, [.ref qA_ring, .ref qA_buffer, .int A_firstPlace, .int A_forcedPlace, .int A_endPlace, .int A_wordsToFailure, .int A_opened])), (qA_ring, .inl (cA_ring, 65536, .inl A_ring)), (qA_buffer, .inl (cA_buffer, 200, .inl A_buffer))] sz)) 1 6 (va_A [(qA, .inr (0, [.ref qA_ring, .ref qA_buffer, .int A_firstPlace, .int A_forcedPlace, .int A_endPlace, .int A_wordsToFailure, .int A_opened])), (qA_ring, .inl (cA_ring, 65536, .inl A_ring)), (qA_buffer, .inl (cA_buffer, 200, .inl A_buffer))] sz) := by
  refine vx_ofW (cc := cX0_fill) (maxL := 3) (ret := none) (by decide) rfl ?_
  intro p e s m args below meth c s₁ B hml hEx hv
  obtain ⟨hav, hsz, hP, hK, hD0, hXW0⟩ := hv
  have hx := B.exec
  have hb := B.bytes
  have hr := B.returns
  have hts := atoms_spec (ws := wsX0_fill) B.pre
  have hbg : ∀ w ∈ bigW, w.before args s = true := fun w h => hts w (List.mem_cons_of_mem _ h)
  have hown : s.vm.findClass RX0 = some m.cls := findClass_of_methodNamed B.named
  have hlocks := B.notSynchronized
  subst hsz
  have hD := hD0.self (sz := s.heap.size)
  generalize hAe : va_A [(qA, .inr (0, [.ref qA_ring, .ref qA_buffer, .int A_firstPlace, .int A_forcedPlace, .int A_endPlace, .int A_wordsToFailure, .int A_opened])), (qA_ring, .inl (cA_ring, 65536, .inl A_ring)), (qA_buffer, .inl (cA_buffer, 200, .inl A_buffer))] s.heap.size = A at hD hXW0 ⊢
  have hA : ∀ q : Nat, s.heap.size ≤ q → A q := fun q h => by rw [← hAe]; exact Or.inr h
  have hS : va_S A s.heap s.heap [] := va_S.rf
  have hP : va_P (dC, dI) vwCl [(qA, .inr (0, [.ref qA_ring, .ref qA_buffer, .int A_firstPlace, .int A_forcedPlace, .int A_endPlace, .int A_wordsToFailure, .int A_opened])), (qA_ring, .inl (cA_ring, 65536, .inl A_ring)), (qA_buffer, .inl (cA_buffer, 200, .inl A_buffer))] s.heap := hP
  generalize hQQ : vx_MQ below (va_Qv post (at_A dC dI A qA qA_ring qA_buffer cA_ring cA_buffer) A) (vx_X (fun u => px u.1 u.2) (atx_A dC dI A qA qA_ring qA_buffer cA_ring cA_buffer) A) args s 1 6 A = QQ
  have hl := lv_entry ([.ref qA, .int x1, .int x2]) (n := 3) (Nat.le_of_ble_eq_true rfl)
  rw [show entryFrame m args 3 = entryFrame m ([.ref qA, .int x1, .int x2] : List Value).toArray 3 by rw [hav], lg_entry_eq]
  generalize (lg_sl ([.ref qA, .int x1, .int x2]) ++ List.replicate (3 - (lg_sl ([.ref qA, .int x1, .int x2])).length) Slot.unset).toArray = ls at hl ⊢
  have hl : lv_has ls 3 [(0, .ref qA), (1, .int x1), (2, .int x2)] := hl
  unfold wp_X0_fill at hw
  refine lv_aload_n hx hb dX0_fill_0 rfl (lv_at hl 0 rfl) ?_
  have hFc := va_free (wc := [(qA, .inr (0, [.ref qA_ring, .ref qA_buffer, .int A_firstPlace, .int A_forcedPlace, .int A_endPlace, .int A_wordsToFailure, .int A_opened])), (qA_ring, .inl (cA_ring, 65536, .inl A_ring)), (qA_buffer, .inl (cA_buffer, 200, .inl A_buffer))]) hD hS hA [0, 1, 2] rfl
  refine vx_callv (vx_runV (As := []) (rest := []) ⟨hx, hb, hml, hown, hbg⟩ (met_X0_requireOpen l hl9 dC dI qA qA_ring qA_buffer cA_ring cA_buffer s.heap.size A_ring A_buffer A_firstPlace A_forcedPlace A_endPlace A_wordsToFailure A_opened  _ _ hw) (cwV 0 hbg g_RX0_34 rfl rfl rfl (by decide +kernel) ⟨Nat.le_of_ble_eq_true rfl, Nat.le_of_ble_eq_true rfl⟩) ⟨pcX_A_b _ _ _ _ _ _ _ _ _ _ _ _ _ _ _ _, va_recv hK hP (ci := 0) (q0 := 0) rfl rfl, fun U hU hW => ⟨rfl, by rw [hU], by rw [hU]; exact hP, va_K.moved hW.alike hK, hD.weaken (fun _ _ _ _ => trivial), XW.go hXW0 hS hFc hU hW⟩⟩ rfl rfl hl.1 rfl (lv_room (Nat.le_of_ble_eq_true rfl)) dX0_fill_1 ⟨Nat.le_of_ble_eq_true rfl, Nat.le_of_ble_eq_true rfl⟩) hS (fun q _ h => hFc q h) hFc (fun q _ h => hFc q h) (fun E9 ce9 q9 u9 t9 H_1 locs ht hvm hpx hBX hz1 hk1 hS hce hcv hcl => ?_) (fun u_1 t_1 H_1 locs ht hvm hw hB hz1 hk1 hS => ?_)
  · obtain ⟨E8, A_ring_x1, A_buffer_x1, A_firstPlace_x1, A_forcedPlace_x1, A_endPlace_x1, A_wordsToFailure_x1, A_opened_x1⟩ := u9
    obtain ⟨rfl, hP1, hK1, hD1⟩ := hBX
    rw [ht] at hP1
    have hP : va_P (dC, dI) vwCl [(qA, .inr (0, [.ref qA_ring, .ref qA_buffer, .int A_firstPlace_x1, .int A_forcedPlace_x1, .int A_endPlace_x1, .int A_wordsToFailure_x1, .int A_opened_x1])), (qA_ring, .inl (cA_ring, 65536, .inl A_ring_x1)), (qA_buffer, .inl (cA_buffer, 200, .inl A_buffer_x1))] H_1 := hP1
    have hD : va_D A [(qA, .inr (0, [.ref qA_ring, .ref qA_buffer, .int A_firstPlace_x1, .int A_forcedPlace_x1, .int A_endPlace_x1, .int A_wordsToFailure_x1, .int A_opened_x1])), (qA_ring, .inl (cA_ring, 65536, .inl A_ring_x1)), (qA_buffer, .inl (cA_buffer, 200, .inl A_buffer_x1))] := hD1.weaken (fun _ _ _ h => hFc _ h)
    subst hQQ
    exact vx_out (fun x hx => (hEx x hx).elim) hlocks hce hcv hcl (fun t ht ha => ⟨(E9, (A_ring_x1, A_buffer_x1, A_firstPlace_x1, A_forcedPlace_x1, A_endPlace_x1, A_wordsToFailure_x1, A_opened_x1)), hpx, ⟨rfl, by rw [ht]; exact hP, va_K.moved ha hK, hD⟩, hS.F ht⟩) hS.2.2 (Nat.le_of_ble_eq_true rfl) (Nat.le_of_ble_eq_true rfl)
  · obtain ⟨A_ring_1, A_buffer_1, A_firstPlace_1, A_forcedPlace_1, A_endPlace_1, A_wordsToFailure_1, A_opened_1⟩ := u_1
    obtain ⟨hP1, hK1, hD1⟩ := hB
    rw [ht] at hP1
    try dsimp only at hw
    have hP : va_P (dC, dI) vwCl [(qA, .inr (0, [.ref qA_ring, .ref qA_buffer, .int A_firstPlace_1, .int A_forcedPlace_1, .int A_endPlace_1, .int A_wordsToFailure_1, .int A_opened_1])), (qA_ring, .inl (cA_ring, 65536, .inl A_ring_1)), (qA_buffer, .inl (cA_buffer, 200, .inl A_buffer_1))] H_1 := hP1
    have hD : va_D A [(qA, .inr (0, [.ref qA_ring, .ref qA_buffer, .int A_firstPlace_1, .int A_forcedPlace_1, .int A_endPlace_1, .int A_wordsToFailure_1, .int A_opened_1])), (qA_ring, .inl (cA_ring, 65536, .inl A_ring_1)), (qA_buffer, .inl (cA_buffer, 200, .inl A_buffer_1))] := hD1.weaken (fun _ _ _ h => hFc _ h)
    refine W.widen (k := 1) (n := 6) (Nat.le_of_ble_eq_true rfl) (Nat.le_of_ble_eq_true rfl) ?_
    refine lv_aload_n hx hb dX0_fill_4 rfl (lv_at hl 0 rfl) ?_
    refine lv_iload_n hx hb dX0_fill_5 rfl (lv_at hl 1 rfl) ?_
    refine lv_iload_n hx hb dX0_fill_6 rfl (lv_at hl 2 rfl) ?_
    have hFc := va_free (wc := [(qA, .inr (0, [.ref qA_ring, .ref qA_buffer, .int A_firstPlace_1, .int A_forcedPlace_1, .int A_endPlace_1, .int A_wordsToFailure_1, .int A_opened_1])), (qA_ring, .inl (cA_ring, 65536, .inl A_ring_1)), (qA_buffer, .inl (cA_buffer, 200, .inl A_buffer_1))]) hD hS hA [0, 1, 2] rfl
    refine va_callv (va_runV (As := [.int x1, .int x2]) (rest := []) ⟨hx, hb, hml, hown, hbg⟩ (met_X0_fillBuffer l dC dI qA qA_ring qA_buffer cA_ring cA_buffer H_1.size A_ring_1 A_buffer_1 A_firstPlace_1 A_forcedPlace_1 A_endPlace_1 A_wordsToFailure_1 A_opened_1 x1 x2 _ hw) (cwV 2 hbg g_RX0_44 rfl rfl rfl (by decide +kernel) ⟨Nat.le_of_ble_eq_true rfl, Nat.le_of_ble_eq_true rfl⟩) ⟨pcW_A_b _ _ _ _ _ _ _ _ _ _ _ _ _ _ _ _, va_recv hK hP (ci := 0) (q0 := 0) rfl rfl, fun U hU hW => ⟨rfl, by rw [hU], by rw [hU]; exact hP, va_K.moved hW.alike hK, hD.weaken (fun _ _ _ _ => trivial)⟩⟩ rfl rfl hl.1 rfl (lv_room (Nat.le_of_ble_eq_true rfl)) dX0_fill_7 ⟨Nat.le_of_ble_eq_true rfl, Nat.le_of_ble_eq_true rfl⟩) hS (fun q _ h => hFc q h) hFc (fun u_2 t_2 H_2 locs ht hvm hw hB hz1 hk1 hS => ?_)
    obtain ⟨A_ring_2, A_buffer_2, A_firstPlace_2, A_forcedPlace_2, A_endPlace_2, A_wordsToFailure_2, A_opened_2⟩ := u_2
    obtain ⟨hP1, hK1, hD1⟩ := hB
    rw [ht] at hP1
    try dsimp only at hw
    have hP : va_P (dC, dI) vwCl [(qA, .inr (0, [.ref qA_ring, .ref qA_buffer, .int A_firstPlace_2, .int A_forcedPlace_2, .int A_endPlace_2, .int A_wordsToFailure_2, .int A_opened_2])), (qA_ring, .inl (cA_ring, 65536, .inl A_ring_2)), (qA_buffer, .inl (cA_buffer, 200, .inl A_buffer_2))] H_2 := hP1
    have hD : va_D A [(qA, .inr (0, [.ref qA_ring, .ref qA_buffer, .int A_firstPlace_2, .int A_forcedPlace_2, .int A_endPlace_2, .int A_wordsToFailure_2, .int A_opened_2])), (qA_ring, .inl (cA_ring, 65536, .inl A_ring_2)), (qA_buffer, .inl (cA_buffer, 200, .inl A_buffer_2))] := hD1.weaken (fun _ _ _ h => hFc _ h)
    subst hQQ
    refine W.widen (k := 1) (n := 6) (Nat.le_of_ble_eq_true rfl) (Nat.le_of_ble_eq_true rfl) ?_
    refine vx_ret ?_
    exact W.vret hx hb hr (fun t ht hW => ⟨⟨(A_ring_2, A_buffer_2, A_firstPlace_2, A_forcedPlace_2, A_endPlace_2, A_wordsToFailure_2, A_opened_2), rfl, hw, by rw [ht]; exact hP, va_K.moved hW.alike hK, hD⟩, hS.F ht⟩) hS.2.2 dX0_fill_10
def wp_X0_append (post : Int32 → St_A → Prop) (px : String → St_A → Prop) (x1 : Int32) (x2 : Int32) (x3 : Int32) (x4 : Int32) (A_ring : Nat → Int32) (A_buffer : Nat → Int32) (A_firstPlace : Int32) (A_forcedPlace : Int32) (A_endPlace : Int32) (A_wordsToFailure : Int32) (A_opened : Int32) : Prop :=
  wp_X0_requireOpen (fun u_1 => match u_1 with | (A_ring_1, A_buffer_1, A_firstPlace_1, A_forcedPlace_1, A_endPlace_1, A_wordsToFailure_1, A_opened_1) => wp_X0_requireOwner (fun u_2 => match u_2 with | (A_ring_2, A_buffer_2, A_firstPlace_2, A_forcedPlace_2, A_endPlace_2, A_wordsToFailure_2, A_opened_2) => ((x1 < (0 : Int32) → px "java/lang/IllegalArgumentException" (A_ring_2, A_buffer_2, A_firstPlace_2, A_forcedPlace_2, A_endPlace_2, A_wordsToFailure_2, A_opened_2)) ∧ (¬ x1 < (0 : Int32) → ((x1 < (16 : Int32) → ((x4 < (0 : Int32) → px "java/lang/IllegalArgumentException" (A_ring_2, A_buffer_2, A_firstPlace_2, A_forcedPlace_2, A_endPlace_2, A_wordsToFailure_2, A_opened_2)) ∧ (¬ x4 < (0 : Int32) → ((x4 ≤ (200 : Int32) → ((x3 < (-1 : Int32) → px "java/lang/IllegalArgumentException" (A_ring_2, A_buffer_2, A_firstPlace_2, A_forcedPlace_2, A_endPlace_2, A_wordsToFailure_2, A_opened_2)) ∧ (¬ x3 < (-1 : Int32) → ((x3 < A_endPlace_2 → (((x4 + (5 : Int32)) ≤ ((65536 : Int32) - (A_endPlace_2 - A_firstPlace_2)) → wp_X0_lastRecordOf (fun r_3 => wp_X0_addWord (fun u_4 => match u_4 with | (A_ring_4, A_buffer_4, A_firstPlace_4, A_forcedPlace_4, A_endPlace_4, A_wordsToFailure_4, A_opened_4) => wp_X0_addWord (fun u_5 => match u_5 with | (A_ring_5, A_buffer_5, A_firstPlace_5, A_forcedPlace_5, A_endPlace_5, A_wordsToFailure_5, A_opened_5) => wp_X0_addWord (fun u_6 => match u_6 with | (A_ring_6, A_buffer_6, A_firstPlace_6, A_forcedPlace_6, A_endPlace_6, A_wordsToFailure_6, A_opened_6) => wp_X0_addWord (fun u_7 => match u_7 with | (A_ring_7, A_buffer_7, A_firstPlace_7, A_forcedPlace_7, A_endPlace_7, A_wordsToFailure_7, A_opened_7) => wp_X0_addContent (fun u_8 => match u_8 with | (A_ring_8, A_buffer_8, A_firstPlace_8, A_forcedPlace_8, A_endPlace_8, A_wordsToFailure_8, A_opened_8) => wp_X0_addWord (fun u_9 => match u_9 with | (A_ring_9, A_buffer_9, A_firstPlace_9, A_forcedPlace_9, A_endPlace_9, A_wordsToFailure_9, A_opened_9) => post A_endPlace_2 (A_ring_9, A_buffer_9, A_firstPlace_9, A_forcedPlace_9, A_endPlace_9, A_wordsToFailure_9, A_opened_9)) (x4 + (5 : Int32)) A_ring_8 A_buffer_8 A_firstPlace_8 A_forcedPlace_8 A_endPlace_8 A_wordsToFailure_8 A_opened_8) x4 A_ring_7 A_buffer_7 A_firstPlace_7 A_forcedPlace_7 A_endPlace_7 A_wordsToFailure_7 A_opened_7) x3 A_ring_6 A_buffer_6 A_firstPlace_6 A_forcedPlace_6 A_endPlace_6 A_wordsToFailure_6 A_opened_6) r_3 A_ring_5 A_buffer_5 A_firstPlace_5 A_forcedPlace_5 A_endPlace_5 A_wordsToFailure_5 A_opened_5) (x1 + ((16 : Int32) * x2)) A_ring_4 A_buffer_4 A_firstPlace_4 A_forcedPlace_4 A_endPlace_4 A_wordsToFailure_4 A_opened_4) (x4 + (5 : Int32)) A_ring_2 A_buffer_2 A_firstPlace_2 A_forcedPlace_2 A_endPlace_2 A_wordsToFailure_2 A_opened_2) x2 A_ring_2 A_buffer_2 A_firstPlace_2 A_forcedPlace_2 A_endPlace_2 A_wordsToFailure_2 A_opened_2) ∧ (¬ (x4 + (5 : Int32)) ≤ ((65536 : Int32) - (A_endPlace_2 - A_firstPlace_2)) → post (-1 : Int32) (A_ring_2, A_buffer_2, A_firstPlace_2, A_forcedPlace_2, A_endPlace_2, A_wordsToFailure_2, A_opened_2)))) ∧ (¬ x3 < A_endPlace_2 → px "java/lang/IllegalArgumentException" (A_ring_2, A_buffer_2, A_firstPlace_2, A_forcedPlace_2, A_endPlace_2, A_wordsToFailure_2, A_opened_2)))))) ∧ (¬ x4 ≤ (200 : Int32) → px "java/lang/IllegalArgumentException" (A_ring_2, A_buffer_2, A_firstPlace_2, A_forcedPlace_2, A_endPlace_2, A_wordsToFailure_2, A_opened_2)))))) ∧ (¬ x1 < (16 : Int32) → px "java/lang/IllegalArgumentException" (A_ring_2, A_buffer_2, A_firstPlace_2, A_forcedPlace_2, A_endPlace_2, A_wordsToFailure_2, A_opened_2)))))) px x2 A_ring_1 A_buffer_1 A_firstPlace_1 A_forcedPlace_1 A_endPlace_1 A_wordsToFailure_1 A_opened_1) px A_ring A_buffer A_firstPlace A_forcedPlace A_endPlace A_wordsToFailure A_opened
set_option maxHeartbeats 4000000 in
set_option maxRecDepth 100000 in
theorem met_X0_append (l : Launch) (hl9 : l.stackTraces = false) (dC : Nat → ClassId) (dI : Nat → Nat → Nat) (qA qA_ring qA_buffer : Nat) (cA_ring cA_buffer : ClassId) (sz : Nat) (A_ring : Nat → Int32) (A_buffer : Nat → Int32) (A_firstPlace : Int32) (A_forcedPlace : Int32) (A_endPlace : Int32) (A_wordsToFailure : Int32) (A_opened : Int32) (x1 : Int32) (x2 : Int32) (x3 : Int32) (x4 : Int32) (post : Int32 → St_A → Prop) (px : String → St_A → Prop) (hw : wp_X0_append post px x1 x2 x3 x4 A_ring A_buffer A_firstPlace A_forcedPlace A_endPlace A_wordsToFailure A_opened) :
    vx_Met l yX0_append wsX0_append ({ frames := 7, cells := 3, slots := 18, locals := 117 } : Room) (pcX_A dC dI qA qA_ring qA_buffer cA_ring cA_buffer sz A_ring A_buffer A_firstPlace A_forcedPlace A_endPlace A_wordsToFailure A_opened [.ref qA, .int x1, .int x2, .int x3, .int x4]) (va_Qi post (at_A dC dI (va_A [(qA, .inr (0, [.ref qA_ring, .ref qA_buffer, .int A_firstPlace, .int A_forcedPlace, .int A_endPlace, .int A_wordsToFailure, .int A_opened])), (qA_ring, .inl (cA_ring, 65536, .inl A_ring)), (qA_buffer, .inl (cA_buffer, 200, .inl A_buffer))] sz) qA qA_ring qA_buffer cA_ring cA_buffer) (va_A [(qA, .inr (0, [.ref qA_ring, .ref qA_buffer, .int A_firstPlace, .int A_forcedPlace, .int A_endPlace, .int A_wordsToFailure, .int A_opened])), (qA_ring, .inl (cA_ring, 65536, .inl A_ring)), (qA_buffer, .inl (cA_buffer, 200, .inl A_buffer))] sz)) (vx_X (fun u => px u.1 u.2) (atx_A dC dI (va_A [(qA, .inr (0, [.ref qA_ring, .ref qA_buffer, .int A_firstPlace, .int A_forcedPlace, .int A_endPlace, .int A_wordsToFailure, .int A_opened])), (qA_ring, .inl (cA_ring, 65536, .inl A_ring)), (qA_buffer, .inl (cA_buffer, 200, .inl A_buffer))] sz) qA qA_ring qA_buffer cA_ring cA_buffer) (va_A [(qA, .inr (0, [.ref qA_ring, .ref qA_buffer, .int A_firstPlace, .int A_forcedPlace, .int A_endPlace, .int A_wordsToFailure, .int A_opened])), (qA_ring, .inl (cA_ring, 65536, .inl A_ring)), (qA_buffer, .inl (cA_buffer, 200, .inl A_buffer))] sz)) 3 18 (va_A [(qA, .inr (0, [.ref qA_ring, .ref qA_buffer, .int A_firstPlace, .int A_forcedPlace, .int A_endPlace, .int A_wordsToFailure, .int A_opened])), (qA_ring, .inl (cA_ring, 65536, .inl A_ring)), (qA_buffer, .inl (cA_buffer, 200, .inl A_buffer))] sz) := by
  refine vx_ofW (cc := cX0_append) (maxL := 8) (ret := (some .int)) (by decide) rfl ?_
  intro p e s m args below meth c s₁ B hml hEx hv
  obtain ⟨hav, hsz, hP, hK, hD0, hXW0⟩ := hv
  have hx := B.exec
  have hb := B.bytes
  have hr := B.returns
  have hts := atoms_spec (ws := wsX0_append) B.pre
  have hbg : ∀ w ∈ bigW, w.before args s = true := fun w h => hts w (List.mem_cons_of_mem _ h)
  have hown : s.vm.findClass RX0 = some m.cls := findClass_of_methodNamed B.named
  have hlocks := B.notSynchronized
  subst hsz
  have hD := hD0.self (sz := s.heap.size)
  generalize hAe : va_A [(qA, .inr (0, [.ref qA_ring, .ref qA_buffer, .int A_firstPlace, .int A_forcedPlace, .int A_endPlace, .int A_wordsToFailure, .int A_opened])), (qA_ring, .inl (cA_ring, 65536, .inl A_ring)), (qA_buffer, .inl (cA_buffer, 200, .inl A_buffer))] s.heap.size = A at hD hXW0 ⊢
  have hA : ∀ q : Nat, s.heap.size ≤ q → A q := fun q h => by rw [← hAe]; exact Or.inr h
  have hS : va_S A s.heap s.heap [] := va_S.rf
  have hP : va_P (dC, dI) vwCl [(qA, .inr (0, [.ref qA_ring, .ref qA_buffer, .int A_firstPlace, .int A_forcedPlace, .int A_endPlace, .int A_wordsToFailure, .int A_opened])), (qA_ring, .inl (cA_ring, 65536, .inl A_ring)), (qA_buffer, .inl (cA_buffer, 200, .inl A_buffer))] s.heap := hP
  generalize hQQ : vx_MQ below (va_Qi post (at_A dC dI A qA qA_ring qA_buffer cA_ring cA_buffer) A) (vx_X (fun u => px u.1 u.2) (atx_A dC dI A qA qA_ring qA_buffer cA_ring cA_buffer) A) args s 3 18 A = QQ
  have hl := lv_entry ([.ref qA, .int x1, .int x2, .int x3, .int x4]) (n := 8) (Nat.le_of_ble_eq_true rfl)
  rw [show entryFrame m args 8 = entryFrame m ([.ref qA, .int x1, .int x2, .int x3, .int x4] : List Value).toArray 8 by rw [hav], lg_entry_eq]
  generalize (lg_sl ([.ref qA, .int x1, .int x2, .int x3, .int x4]) ++ List.replicate (8 - (lg_sl ([.ref qA, .int x1, .int x2, .int x3, .int x4])).length) Slot.unset).toArray = ls at hl ⊢
  have hl : lv_has ls 8 [(0, .ref qA), (1, .int x1), (2, .int x2), (3, .int x3), (4, .int x4)] := hl
  unfold wp_X0_append at hw
  refine lv_aload_n hx hb dX0_append_0 rfl (lv_at hl 0 rfl) ?_
  have hFc := va_free (wc := [(qA, .inr (0, [.ref qA_ring, .ref qA_buffer, .int A_firstPlace, .int A_forcedPlace, .int A_endPlace, .int A_wordsToFailure, .int A_opened])), (qA_ring, .inl (cA_ring, 65536, .inl A_ring)), (qA_buffer, .inl (cA_buffer, 200, .inl A_buffer))]) hD hS hA [0, 1, 2] rfl
  refine vx_callv (vx_runV (As := []) (rest := []) ⟨hx, hb, hml, hown, hbg⟩ (met_X0_requireOpen l hl9 dC dI qA qA_ring qA_buffer cA_ring cA_buffer s.heap.size A_ring A_buffer A_firstPlace A_forcedPlace A_endPlace A_wordsToFailure A_opened  _ _ hw) (cwV 0 hbg g_RX0_34 rfl rfl rfl (by decide +kernel) ⟨Nat.le_of_ble_eq_true rfl, Nat.le_of_ble_eq_true rfl⟩) ⟨pcX_A_b _ _ _ _ _ _ _ _ _ _ _ _ _ _ _ _, va_recv hK hP (ci := 0) (q0 := 0) rfl rfl, fun U hU hW => ⟨rfl, by rw [hU], by rw [hU]; exact hP, va_K.moved hW.alike hK, hD.weaken (fun _ _ _ _ => trivial), XW.go hXW0 hS hFc hU hW⟩⟩ rfl rfl hl.1 rfl (lv_room (Nat.le_of_ble_eq_true rfl)) dX0_append_1 ⟨Nat.le_of_ble_eq_true rfl, Nat.le_of_ble_eq_true rfl⟩) hS (fun q _ h => hFc q h) hFc (fun q _ h => hFc q h) (fun E9 ce9 q9 u9 t9 H_1 locs ht hvm hpx hBX hz1 hk1 hS hce hcv hcl => ?_) (fun u_1 t_1 H_1 locs ht hvm hw hB hz1 hk1 hS => ?_)
  · obtain ⟨E8, A_ring_x1, A_buffer_x1, A_firstPlace_x1, A_forcedPlace_x1, A_endPlace_x1, A_wordsToFailure_x1, A_opened_x1⟩ := u9
    obtain ⟨rfl, hP1, hK1, hD1⟩ := hBX
    rw [ht] at hP1
    have hP : va_P (dC, dI) vwCl [(qA, .inr (0, [.ref qA_ring, .ref qA_buffer, .int A_firstPlace_x1, .int A_forcedPlace_x1, .int A_endPlace_x1, .int A_wordsToFailure_x1, .int A_opened_x1])), (qA_ring, .inl (cA_ring, 65536, .inl A_ring_x1)), (qA_buffer, .inl (cA_buffer, 200, .inl A_buffer_x1))] H_1 := hP1
    have hD : va_D A [(qA, .inr (0, [.ref qA_ring, .ref qA_buffer, .int A_firstPlace_x1, .int A_forcedPlace_x1, .int A_endPlace_x1, .int A_wordsToFailure_x1, .int A_opened_x1])), (qA_ring, .inl (cA_ring, 65536, .inl A_ring_x1)), (qA_buffer, .inl (cA_buffer, 200, .inl A_buffer_x1))] := hD1.weaken (fun _ _ _ h => hFc _ h)
    subst hQQ
    exact vx_out (fun x hx => (hEx x hx).elim) hlocks hce hcv hcl (fun t ht ha => ⟨(E9, (A_ring_x1, A_buffer_x1, A_firstPlace_x1, A_forcedPlace_x1, A_endPlace_x1, A_wordsToFailure_x1, A_opened_x1)), hpx, ⟨rfl, by rw [ht]; exact hP, va_K.moved ha hK, hD⟩, hS.F ht⟩) hS.2.2 (Nat.le_of_ble_eq_true rfl) (Nat.le_of_ble_eq_true rfl)
  · obtain ⟨A_ring_1, A_buffer_1, A_firstPlace_1, A_forcedPlace_1, A_endPlace_1, A_wordsToFailure_1, A_opened_1⟩ := u_1
    obtain ⟨hP1, hK1, hD1⟩ := hB
    rw [ht] at hP1
    try dsimp only at hw
    have hP : va_P (dC, dI) vwCl [(qA, .inr (0, [.ref qA_ring, .ref qA_buffer, .int A_firstPlace_1, .int A_forcedPlace_1, .int A_endPlace_1, .int A_wordsToFailure_1, .int A_opened_1])), (qA_ring, .inl (cA_ring, 65536, .inl A_ring_1)), (qA_buffer, .inl (cA_buffer, 200, .inl A_buffer_1))] H_1 := hP1
    have hD : va_D A [(qA, .inr (0, [.ref qA_ring, .ref qA_buffer, .int A_firstPlace_1, .int A_forcedPlace_1, .int A_endPlace_1, .int A_wordsToFailure_1, .int A_opened_1])), (qA_ring, .inl (cA_ring, 65536, .inl A_ring_1)), (qA_buffer, .inl (cA_buffer, 200, .inl A_buffer_1))] := hD1.weaken (fun _ _ _ h => hFc _ h)
    refine W.widen (k := 1) (n := 6) (Nat.le_of_ble_eq_true rfl) (Nat.le_of_ble_eq_true rfl) ?_
    refine lv_aload_n hx hb dX0_append_4 rfl (lv_at hl 0 rfl) ?_
    refine lv_iload_n hx hb dX0_append_5 rfl (lv_at hl 2 rfl) ?_
    have hFc := va_free (wc := [(qA, .inr (0, [.ref qA_ring, .ref qA_buffer, .int A_firstPlace_1, .int A_forcedPlace_1, .int A_endPlace_1, .int A_wordsToFailure_1, .int A_opened_1])), (qA_ring, .inl (cA_ring, 65536, .inl A_ring_1)), (qA_buffer, .inl (cA_buffer, 200, .inl A_buffer_1))]) hD hS hA [0, 1, 2] rfl
    refine vx_callv (vx_runV (As := [.int x2]) (rest := []) ⟨hx, hb, hml, hown, hbg⟩ (met_X0_requireOwner l hl9 dC dI qA qA_ring qA_buffer cA_ring cA_buffer H_1.size A_ring_1 A_buffer_1 A_firstPlace_1 A_forcedPlace_1 A_endPlace_1 A_wordsToFailure_1 A_opened_1 x2 _ _ hw) (cwV 1 hbg g_RX0_48 rfl rfl rfl (by decide +kernel) ⟨Nat.le_of_ble_eq_true rfl, Nat.le_of_ble_eq_true rfl⟩) ⟨pcX_A_b _ _ _ _ _ _ _ _ _ _ _ _ _ _ _ _, va_recv hK hP (ci := 0) (q0 := 0) rfl rfl, fun U hU hW => ⟨rfl, by rw [hU], by rw [hU]; exact hP, va_K.moved hW.alike hK, hD.weaken (fun _ _ _ _ => trivial), XW.go hXW0 hS hFc hU hW⟩⟩ rfl rfl hl.1 rfl (lv_room (Nat.le_of_ble_eq_true rfl)) dX0_append_6 ⟨Nat.le_of_ble_eq_true rfl, Nat.le_of_ble_eq_true rfl⟩) hS (fun q _ h => hFc q h) hFc (fun q _ h => hFc q h) (fun E9 ce9 q9 u9 t9 H_2 locs ht hvm hpx hBX hz1 hk1 hS hce hcv hcl => ?_) (fun u_2 t_2 H_2 locs ht hvm hw hB hz1 hk1 hS => ?_)
    · obtain ⟨E8, A_ring_x2, A_buffer_x2, A_firstPlace_x2, A_forcedPlace_x2, A_endPlace_x2, A_wordsToFailure_x2, A_opened_x2⟩ := u9
      obtain ⟨rfl, hP1, hK1, hD1⟩ := hBX
      rw [ht] at hP1
      have hP : va_P (dC, dI) vwCl [(qA, .inr (0, [.ref qA_ring, .ref qA_buffer, .int A_firstPlace_x2, .int A_forcedPlace_x2, .int A_endPlace_x2, .int A_wordsToFailure_x2, .int A_opened_x2])), (qA_ring, .inl (cA_ring, 65536, .inl A_ring_x2)), (qA_buffer, .inl (cA_buffer, 200, .inl A_buffer_x2))] H_2 := hP1
      have hD : va_D A [(qA, .inr (0, [.ref qA_ring, .ref qA_buffer, .int A_firstPlace_x2, .int A_forcedPlace_x2, .int A_endPlace_x2, .int A_wordsToFailure_x2, .int A_opened_x2])), (qA_ring, .inl (cA_ring, 65536, .inl A_ring_x2)), (qA_buffer, .inl (cA_buffer, 200, .inl A_buffer_x2))] := hD1.weaken (fun _ _ _ h => hFc _ h)
      subst hQQ
      exact vx_out (fun x hx => (hEx x hx).elim) hlocks hce hcv hcl (fun t ht ha => ⟨(E9, (A_ring_x2, A_buffer_x2, A_firstPlace_x2, A_forcedPlace_x2, A_endPlace_x2, A_wordsToFailure_x2, A_opened_x2)), hpx, ⟨rfl, by rw [ht]; exact hP, va_K.moved ha hK, hD⟩, hS.F ht⟩) hS.2.2 (Nat.le_of_ble_eq_true rfl) (Nat.le_of_ble_eq_true rfl)
    · obtain ⟨A_ring_2, A_buffer_2, A_firstPlace_2, A_forcedPlace_2, A_endPlace_2, A_wordsToFailure_2, A_opened_2⟩ := u_2
      obtain ⟨hP1, hK1, hD1⟩ := hB
      rw [ht] at hP1
      try dsimp only at hw
      have hP : va_P (dC, dI) vwCl [(qA, .inr (0, [.ref qA_ring, .ref qA_buffer, .int A_firstPlace_2, .int A_forcedPlace_2, .int A_endPlace_2, .int A_wordsToFailure_2, .int A_opened_2])), (qA_ring, .inl (cA_ring, 65536, .inl A_ring_2)), (qA_buffer, .inl (cA_buffer, 200, .inl A_buffer_2))] H_2 := hP1
      have hD : va_D A [(qA, .inr (0, [.ref qA_ring, .ref qA_buffer, .int A_firstPlace_2, .int A_forcedPlace_2, .int A_endPlace_2, .int A_wordsToFailure_2, .int A_opened_2])), (qA_ring, .inl (cA_ring, 65536, .inl A_ring_2)), (qA_buffer, .inl (cA_buffer, 200, .inl A_buffer_2))] := hD1.weaken (fun _ _ _ h => hFc _ h)
      refine W.widen (k := 2) (n := 12) (Nat.le_of_ble_eq_true rfl) (Nat.le_of_ble_eq_true rfl) ?_
      refine lv_iload_n hx hb dX0_append_9 rfl (lv_at hl 1 rfl) ?_
      refine lv_if_lt (tgt := 19) hx hb dX0_append_10 (by decide) (fun c9 => ?_) (fun c9 => ?_)
      · have hw := hw.1 c9
        subst hQQ
        obtain ⟨sa, hsa⟩ := hXW0.2.2.1 (RX0, 54, "kinds are 0 .. 15") (by decide +kernel)
        exact vx_throwS (own := RX0) (cls := "java/lang/IllegalArgumentException") (names := ["java/lang/RuntimeException", "java/lang/Exception"]) hx hb hl9 hown (by decide +kernel) (by decide +kernel) (hbg _ kw_69) (hbg _ kw_70) hsa (vx_hat (L := vx_atS RX0 56 "java/lang/IllegalArgumentException" ["java/lang/RuntimeException", "java/lang/Exception"]) (B := [.castable "java/lang/IllegalArgumentException" "java/lang/IllegalArgumentException", .declares ⟨"java/lang/RuntimeException", "<init>", "(Ljava/lang/String;)V"⟩, .declares ⟨"java/lang/Exception", "<init>", "(Ljava/lang/String;)V"⟩, .declares ⟨"java/lang/Throwable", "<init>", "(Ljava/lang/String;)V"⟩]) (fun w hw => hbg w (xa_RX0_56 w hw)) (by decide +kernel) (vx_c (va_Nw.use rfl (hXW0.1 "java/lang/IllegalArgumentException" (by decide))) (vx_c (va_Nw.use rfl (hXW0.2.1 "java/lang/RuntimeException" (by decide))) (vx_c (va_Nw.use rfl (hXW0.2.1 "java/lang/Exception" (by decide))) (vx_c (va_Nw.use rfl (hXW0.2.1 "java/lang/Throwable" (by decide))) (vx_n)))))) (by decide +kernel) hXW0.2.2.2.2.1 hXW0.2.2.2.2.2 hS (hl.1.trans hml.symm) dX0_append_19 dX0_append_22 dX0_append_23 dX0_append_25 dX0_append_28 (fun x hx => (hEx x hx).elim) (Nat.le_of_ble_eq_true rfl) (Nat.le_of_ble_eq_true rfl) (Nat.le_of_ble_eq_true rfl) (Nat.le_of_ble_eq_true rfl) hlocks (fun t ha hsz hk => ⟨("java/lang/IllegalArgumentException", (A_ring_2, A_buffer_2, A_firstPlace_2, A_forcedPlace_2, A_endPlace_2, A_wordsToFailure_2, A_opened_2)), hw, ⟨rfl, hP.kept (fun k q hq => hk q.1 (hP k q hq).lt), va_K.moved ha hK, hD⟩, Nat.le_trans hS.1 hsz, fun q h1 h2 => (hk q (Nat.lt_of_lt_of_le h1 hS.1)).trans (hS.2.1 q h1 h2)⟩) hS.2.2 (Nat.le_of_ble_eq_true rfl) (Nat.le_of_ble_eq_true rfl)
      · have hw := hw.2 c9
        refine lv_iload_n hx hb dX0_append_13 rfl (lv_at hl 1 rfl) ?_
        refine lv_bipush (v := (16 : Int32)) hx hb dX0_append_14 (by decide) ?_
        refine lv_icmp_lt (tgt := 29) hx hb dX0_append_16 (by decide) (fun c9 => ?_) (fun c9 => ?_)
        · have hw := hw.1 c9
          refine lv_iload hx hb dX0_append_29 (lv_at hl 4 rfl) ?_
          refine lv_if_lt (tgt := 42) hx hb dX0_append_31 (by decide) (fun c9 => ?_) (fun c9 => ?_)
          · have hw := hw.1 c9
            subst hQQ
            obtain ⟨sa, hsa⟩ := hXW0.2.2.1 (RX0, 57, "a content has 0 .. 200 words") (by decide +kernel)
            exact vx_throwS (own := RX0) (cls := "java/lang/IllegalArgumentException") (names := ["java/lang/RuntimeException", "java/lang/Exception"]) hx hb hl9 hown (by decide +kernel) (by decide +kernel) (hbg _ kw_69) (hbg _ kw_70) hsa (vx_hat (L := vx_atS RX0 56 "java/lang/IllegalArgumentException" ["java/lang/RuntimeException", "java/lang/Exception"]) (B := [.castable "java/lang/IllegalArgumentException" "java/lang/IllegalArgumentException", .declares ⟨"java/lang/RuntimeException", "<init>", "(Ljava/lang/String;)V"⟩, .declares ⟨"java/lang/Exception", "<init>", "(Ljava/lang/String;)V"⟩, .declares ⟨"java/lang/Throwable", "<init>", "(Ljava/lang/String;)V"⟩]) (fun w hw => hbg w (xa_RX0_56 w hw)) (by decide +kernel) (vx_c (va_Nw.use rfl (hXW0.1 "java/lang/IllegalArgumentException" (by decide))) (vx_c (va_Nw.use rfl (hXW0.2.1 "java/lang/RuntimeException" (by decide))) (vx_c (va_Nw.use rfl (hXW0.2.1 "java/lang/Exception" (by decide))) (vx_c (va_Nw.use rfl (hXW0.2.1 "java/lang/Throwable" (by decide))) (vx_n)))))) (by decide +kernel) hXW0.2.2.2.2.1 hXW0.2.2.2.2.2 hS (hl.1.trans hml.symm) dX0_append_42 dX0_append_45 dX0_append_46 dX0_append_48 dX0_append_51 (fun x hx => (hEx x hx).elim) (Nat.le_of_ble_eq_true rfl) (Nat.le_of_ble_eq_true rfl) (Nat.le_of_ble_eq_true rfl) (Nat.le_of_ble_eq_true rfl) hlocks (fun t ha hsz hk => ⟨("java/lang/IllegalArgumentException", (A_ring_2, A_buffer_2, A_firstPlace_2, A_forcedPlace_2, A_endPlace_2, A_wordsToFailure_2, A_opened_2)), hw, ⟨rfl, hP.kept (fun k q hq => hk q.1 (hP k q hq).lt), va_K.moved ha hK, hD⟩, Nat.le_trans hS.1 hsz, fun q h1 h2 => (hk q (Nat.lt_of_lt_of_le h1 hS.1)).trans (hS.2.1 q h1 h2)⟩) hS.2.2 (Nat.le_of_ble_eq_true rfl) (Nat.le_of_ble_eq_true rfl)
          · have hw := hw.2 c9
            refine lv_iload hx hb dX0_append_34 (lv_at hl 4 rfl) ?_
            refine lv_sipush (v := (200 : Int32)) hx hb dX0_append_36 (by decide) ?_
            refine lv_icmp_le (tgt := 52) hx hb dX0_append_39 (by decide) (fun c9 => ?_) (fun c9 => ?_)
            · have hw := hw.1 c9
              refine lv_iload_n hx hb dX0_append_52 rfl (lv_at hl 3 rfl) ?_
              refine lv_iconst (v := (-1 : Int32)) hx hb dX0_append_53 (by decide) ?_
              refine lv_icmp_lt (tgt := 65) hx hb dX0_append_54 (by decide) (fun c9 => ?_) (fun c9 => ?_)
              · have hw := hw.1 c9
                subst hQQ
                obtain ⟨sa, hsa⟩ := hXW0.2.2.1 (RX0, 59, "a link is NONE or a place before the end") (by decide +kernel)
                exact vx_throwS (own := RX0) (cls := "java/lang/IllegalArgumentException") (names := ["java/lang/RuntimeException", "java/lang/Exception"]) hx hb hl9 hown (by decide +kernel) (by decide +kernel) (hbg _ kw_69) (hbg _ kw_70) hsa (vx_hat (L := vx_atS RX0 56 "java/lang/IllegalArgumentException" ["java/lang/RuntimeException", "java/lang/Exception"]) (B := [.castable "java/lang/IllegalArgumentException" "java/lang/IllegalArgumentException", .declares ⟨"java/lang/RuntimeException", "<init>", "(Ljava/lang/String;)V"⟩, .declares ⟨"java/lang/Exception", "<init>", "(Ljava/lang/String;)V"⟩, .declares ⟨"java/lang/Throwable", "<init>", "(Ljava/lang/String;)V"⟩]) (fun w hw => hbg w (xa_RX0_56 w hw)) (by decide +kernel) (vx_c (va_Nw.use rfl (hXW0.1 "java/lang/IllegalArgumentException" (by decide))) (vx_c (va_Nw.use rfl (hXW0.2.1 "java/lang/RuntimeException" (by decide))) (vx_c (va_Nw.use rfl (hXW0.2.1 "java/lang/Exception" (by decide))) (vx_c (va_Nw.use rfl (hXW0.2.1 "java/lang/Throwable" (by decide))) (vx_n)))))) (by decide +kernel) hXW0.2.2.2.2.1 hXW0.2.2.2.2.2 hS (hl.1.trans hml.symm) dX0_append_65 dX0_append_68 dX0_append_69 dX0_append_71 dX0_append_74 (fun x hx => (hEx x hx).elim) (Nat.le_of_ble_eq_true rfl) (Nat.le_of_ble_eq_true rfl) (Nat.le_of_ble_eq_true rfl) (Nat.le_of_ble_eq_true rfl) hlocks (fun t ha hsz hk => ⟨("java/lang/IllegalArgumentException", (A_ring_2, A_buffer_2, A_firstPlace_2, A_forcedPlace_2, A_endPlace_2, A_wordsToFailure_2, A_opened_2)), hw, ⟨rfl, hP.kept (fun k q hq => hk q.1 (hP k q hq).lt), va_K.moved ha hK, hD⟩, Nat.le_trans hS.1 hsz, fun q h1 h2 => (hk q (Nat.lt_of_lt_of_le h1 hS.1)).trans (hS.2.1 q h1 h2)⟩) hS.2.2 (Nat.le_of_ble_eq_true rfl) (Nat.le_of_ble_eq_true rfl)
              · have hw := hw.2 c9
                refine lv_iload_n hx hb dX0_append_57 rfl (lv_at hl 3 rfl) ?_
                refine lv_aload_n hx hb dX0_append_58 rfl (lv_at hl 0 rfl) ?_
                refine va_get (D := (dC, dI)) (ci := 0) (v := .int A_endPlace_2) (C := RX0) (T := TX0) (N := 7) hx hb hbg in_X0 hown hK hP 0 rfl rfl 4 (by decide) (hbg _ kw_12) (fun _ h9 => h9) rfl dX0_append_59 ?_
                refine lv_icmp_lt (tgt := 75) hx hb dX0_append_62 (by decide) (fun c9 => ?_) (fun c9 => ?_)
                · have hw := hw.1 c9
                  refine lv_iload hx hb dX0_append_75 (lv_at hl 4 rfl) ?_
                  refine lv_iconst (v := (5 : Int32)) hx hb dX0_append_77 (by decide) ?_
                  refine lv_iadd hx hb dX0_append_78 ?_
                  refine lv_istore (lv' := [(5, .int (x4 + (5 : Int32))), (0, .ref qA), (1, .int x1), (2, .int x2), (3, .int x3), (4, .int x4)]) hx hb dX0_append_79 hl (by decide) rfl (fun ls hl => ?_)
                  refine lv_iload hx hb dX0_append_81 (lv_at hl 0 rfl) ?_
                  refine lv_ldc (v := (65536 : Int32)) hx hb hown (hbg _ kw_87) dX0_append_83 ?_
                  refine lv_aload_n hx hb dX0_append_85 rfl (lv_at hl 1 rfl) ?_
                  refine va_get (D := (dC, dI)) (ci := 0) (v := .int A_endPlace_2) (C := RX0) (T := TX0) (N := 7) hx hb hbg in_X0 hown hK hP 0 rfl rfl 4 (by decide) (hbg _ kw_12) (fun _ h9 => h9) rfl dX0_append_86 ?_
                  refine lv_aload_n hx hb dX0_append_89 rfl (lv_at hl 1 rfl) ?_
                  refine va_get (D := (dC, dI)) (ci := 0) (v := .int A_firstPlace_2) (C := RX0) (T := TX0) (N := 7) hx hb hbg in_X0 hown hK hP 0 rfl rfl 2 (by decide) (hbg _ kw_2) (fun _ h9 => h9) rfl dX0_append_90 ?_
                  refine lv_isub hx hb dX0_append_93 ?_
                  refine lv_isub hx hb dX0_append_94 ?_
                  refine lv_icmp_le (tgt := 100) hx hb dX0_append_95 (by decide) (fun c9 => ?_) (fun c9 => ?_)
                  · have hw := hw.1 c9
                    refine lv_aload_n hx hb dX0_append_100 rfl (lv_at hl 1 rfl) ?_
                    refine va_get (D := (dC, dI)) (ci := 0) (v := .int A_endPlace_2) (C := RX0) (T := TX0) (N := 7) hx hb hbg in_X0 hown hK hP 0 rfl rfl 4 (by decide) (hbg _ kw_12) (fun _ h9 => h9) rfl dX0_append_101 ?_
                    refine lv_istore (lv' := [(6, .int A_endPlace_2), (5, .int (x4 + (5 : Int32))), (0, .ref qA), (1, .int x1), (2, .int x2), (3, .int x3), (4, .int x4)]) hx hb dX0_append_104 hl (by decide) rfl (fun ls hl => ?_)
                    refine lv_aload_n hx hb dX0_append_106 rfl (lv_at hl 2 rfl) ?_
                    refine lv_iload_n hx hb dX0_append_107 rfl (lv_at hl 4 rfl) ?_
                    refine vp_callSi (W.runV (As := [.int x2]) (rest := []) ⟨hx, hb, hml, hown, hbg⟩ (met_X0_lastRecordOf l dC dI qA qA_ring qA_buffer cA_ring cA_buffer A_ring_2 A_buffer_2 A_firstPlace_2 A_forcedPlace_2 A_endPlace_2 A_wordsToFailure_2 A_opened_2 x2 _ hw) (cwV 1 hbg g_RX0_61 rfl rfl rfl (by decide +kernel) ⟨Nat.le_of_ble_eq_true rfl, Nat.le_of_ble_eq_true rfl⟩) ⟨pcR_A_b _ _ _ _ _ _ _ _ _ _ _ _ _ _ _ , va_recv hK hP (ci := 0) (q0 := 0) rfl rfl, fun U hU hW => ⟨rfl, by rw [hU]; exact hP, va_K.moved hW.alike hK⟩⟩ rfl rfl hl.1 rfl (lv_room (Nat.le_of_ble_eq_true rfl)) dX0_append_108 ⟨Nat.le_of_ble_eq_true rfl, Nat.le_of_ble_eq_true rfl⟩) (fun r_3 hw => ?_)
                    try dsimp only at hw
                    refine lv_istore (lv' := [(7, .int r_3), (6, .int A_endPlace_2), (5, .int (x4 + (5 : Int32))), (0, .ref qA), (1, .int x1), (2, .int x2), (3, .int x3), (4, .int x4)]) hx hb dX0_append_111 hl (by decide) rfl (fun ls hl => ?_)
                    refine lv_aload_n hx hb dX0_append_113 rfl (lv_at hl 3 rfl) ?_
                    refine lv_iload hx hb dX0_append_114 (lv_at hl 2 rfl) ?_
                    have hFc := va_free (wc := [(qA, .inr (0, [.ref qA_ring, .ref qA_buffer, .int A_firstPlace_2, .int A_forcedPlace_2, .int A_endPlace_2, .int A_wordsToFailure_2, .int A_opened_2])), (qA_ring, .inl (cA_ring, 65536, .inl A_ring_2)), (qA_buffer, .inl (cA_buffer, 200, .inl A_buffer_2))]) hD hS hA [0, 1, 2] rfl
                    refine va_callv (va_runV (As := [.int (x4 + (5 : Int32))]) (rest := []) ⟨hx, hb, hml, hown, hbg⟩ (met_X0_addWord l dC dI qA qA_ring qA_buffer cA_ring cA_buffer H_2.size A_ring_2 A_buffer_2 A_firstPlace_2 A_forcedPlace_2 A_endPlace_2 A_wordsToFailure_2 A_opened_2 (x4 + (5 : Int32)) _ hw) (cwV 1 hbg g_RX0_65 rfl rfl rfl (by decide +kernel) ⟨Nat.le_of_ble_eq_true rfl, Nat.le_of_ble_eq_true rfl⟩) ⟨pcW_A_b _ _ _ _ _ _ _ _ _ _ _ _ _ _ _ _, va_recv hK hP (ci := 0) (q0 := 0) rfl rfl, fun U hU hW => ⟨rfl, by rw [hU], by rw [hU]; exact hP, va_K.moved hW.alike hK, hD.weaken (fun _ _ _ _ => trivial)⟩⟩ rfl rfl hl.1 rfl (lv_room (Nat.le_of_ble_eq_true rfl)) dX0_append_116 ⟨Nat.le_of_ble_eq_true rfl, Nat.le_of_ble_eq_true rfl⟩) hS (fun q _ h => hFc q h) hFc (fun u_4 t_4 H_4 locs ht hvm hw hB hz1 hk1 hS => ?_)
                    obtain ⟨A_ring_4, A_buffer_4, A_firstPlace_4, A_forcedPlace_4, A_endPlace_4, A_wordsToFailure_4, A_opened_4⟩ := u_4
                    obtain ⟨hP1, hK1, hD1⟩ := hB
                    rw [ht] at hP1
                    try dsimp only at hw
                    have hP : va_P (dC, dI) vwCl [(qA, .inr (0, [.ref qA_ring, .ref qA_buffer, .int A_firstPlace_4, .int A_forcedPlace_4, .int A_endPlace_4, .int A_wordsToFailure_4, .int A_opened_4])), (qA_ring, .inl (cA_ring, 65536, .inl A_ring_4)), (qA_buffer, .inl (cA_buffer, 200, .inl A_buffer_4))] H_4 := hP1
                    have hD : va_D A [(qA, .inr (0, [.ref qA_ring, .ref qA_buffer, .int A_firstPlace_4, .int A_forcedPlace_4, .int A_endPlace_4, .int A_wordsToFailure_4, .int A_opened_4])), (qA_ring, .inl (cA_ring, 65536, .inl A_ring_4)), (qA_buffer, .inl (cA_buffer, 200, .inl A_buffer_4))] := hD1.weaken (fun _ _ _ h => hFc _ h)
                    refine lv_aload_n hx hb dX0_append_119 rfl (lv_at hl 3 rfl) ?_
                    refine lv_iload_n hx hb dX0_append_120 rfl (lv_at hl 4 rfl) ?_
                    refine lv_bipush (v := (16 : Int32)) hx hb dX0_append_121 (by decide) ?_
                    refine lv_iload_n hx hb dX0_append_123 rfl (lv_at hl 5 rfl) ?_
                    refine lv_imul hx hb dX0_append_124 ?_
                    refine lv_iadd hx hb dX0_append_125 ?_
                    have hFc := va_free (wc := [(qA, .inr (0, [.ref qA_ring, .ref qA_buffer, .int A_firstPlace_4, .int A_forcedPlace_4, .int A_endPlace_4, .int A_wordsToFailure_4, .int A_opened_4])), (qA_ring, .inl (cA_ring, 65536, .inl A_ring_4)), (qA_buffer, .inl (cA_buffer, 200, .inl A_buffer_4))]) hD hS hA [0, 1, 2] rfl
                    refine va_callv (va_runV (As := [.int (x1 + ((16 : Int32) * x2))]) (rest := []) ⟨hx, hb, hml, hown, hbg⟩ (met_X0_addWord l dC dI qA qA_ring qA_buffer cA_ring cA_buffer H_4.size A_ring_4 A_buffer_4 A_firstPlace_4 A_forcedPlace_4 A_endPlace_4 A_wordsToFailure_4 A_opened_4 (x1 + ((16 : Int32) * x2)) _ hw) (cwV 1 hbg g_RX0_65 rfl rfl rfl (by decide +kernel) ⟨Nat.le_of_ble_eq_true rfl, Nat.le_of_ble_eq_true rfl⟩) ⟨pcW_A_b _ _ _ _ _ _ _ _ _ _ _ _ _ _ _ _, va_recv hK hP (ci := 0) (q0 := 0) rfl rfl, fun U hU hW => ⟨rfl, by rw [hU], by rw [hU]; exact hP, va_K.moved hW.alike hK, hD.weaken (fun _ _ _ _ => trivial)⟩⟩ rfl rfl hl.1 rfl (lv_room (Nat.le_of_ble_eq_true rfl)) dX0_append_126 ⟨Nat.le_of_ble_eq_true rfl, Nat.le_of_ble_eq_true rfl⟩) hS (fun q _ h => hFc q h) hFc (fun u_5 t_5 H_5 locs ht hvm hw hB hz1 hk1 hS => ?_)
                    obtain ⟨A_ring_5, A_buffer_5, A_firstPlace_5, A_forcedPlace_5, A_endPlace_5, A_wordsToFailure_5, A_opened_5⟩ := u_5
                    obtain ⟨hP1, hK1, hD1⟩ := hB
                    rw [ht] at hP1
                    try dsimp only at hw
                    have hP : va_P (dC, dI) vwCl [(qA, .inr (0, [.ref qA_ring, .ref qA_buffer, .int A_firstPlace_5, .int A_forcedPlace_5, .int A_endPlace_5, .int A_wordsToFailure_5, .int A_opened_5])), (qA_ring, .inl (cA_ring, 65536, .inl A_ring_5)), (qA_buffer, .inl (cA_buffer, 200, .inl A_buffer_5))] H_5 := hP1
                    have hD : va_D A [(qA, .inr (0, [.ref qA_ring, .ref qA_buffer, .int A_firstPlace_5, .int A_forcedPlace_5, .int A_endPlace_5, .int A_wordsToFailure_5, .int A_opened_5])), (qA_ring, .inl (cA_ring, 65536, .inl A_ring_5)), (qA_buffer, .inl (cA_buffer, 200, .inl A_buffer_5))] := hD1.weaken (fun _ _ _ h => hFc _ h)
                    refine lv_aload_n hx hb dX0_append_129 rfl (lv_at hl 3 rfl) ?_
                    refine lv_iload hx hb dX0_append_130 (lv_at hl 0 rfl) ?_
                    have hFc := va_free (wc := [(qA, .inr (0, [.ref qA_ring, .ref qA_buffer, .int A_firstPlace_5, .int A_forcedPlace_5, .int A_endPlace_5, .int A_wordsToFailure_5, .int A_opened_5])), (qA_ring, .inl (cA_ring, 65536, .inl A_ring_5)), (qA_buffer, .inl (cA_buffer, 200, .inl A_buffer_5))]) hD hS hA [0, 1, 2] rfl
                    refine va_callv (va_runV (As := [.int r_3]) (rest := []) ⟨hx, hb, hml, hown, hbg⟩ (met_X0_addWord l dC dI qA qA_ring qA_buffer cA_ring cA_buffer H_5.size A_ring_5 A_buffer_5 A_firstPlace_5 A_forcedPlace_5 A_endPlace_5 A_wordsToFailure_5 A_opened_5 r_3 _ hw) (cwV 1 hbg g_RX0_65 rfl rfl rfl (by decide +kernel) ⟨Nat.le_of_ble_eq_true rfl, Nat.le_of_ble_eq_true rfl⟩) ⟨pcW_A_b _ _ _ _ _ _ _ _ _ _ _ _ _ _ _ _, va_recv hK hP (ci := 0) (q0 := 0) rfl rfl, fun U hU hW => ⟨rfl, by rw [hU], by rw [hU]; exact hP, va_K.moved hW.alike hK, hD.weaken (fun _ _ _ _ => trivial)⟩⟩ rfl rfl hl.1 rfl (lv_room (Nat.le_of_ble_eq_true rfl)) dX0_append_132 ⟨Nat.le_of_ble_eq_true rfl, Nat.le_of_ble_eq_true rfl⟩) hS (fun q _ h => hFc q h) hFc (fun u_6 t_6 H_6 locs ht hvm hw hB hz1 hk1 hS => ?_)
                    obtain ⟨A_ring_6, A_buffer_6, A_firstPlace_6, A_forcedPlace_6, A_endPlace_6, A_wordsToFailure_6, A_opened_6⟩ := u_6
                    obtain ⟨hP1, hK1, hD1⟩ := hB
                    rw [ht] at hP1
                    try dsimp only at hw
                    have hP : va_P (dC, dI) vwCl [(qA, .inr (0, [.ref qA_ring, .ref qA_buffer, .int A_firstPlace_6, .int A_forcedPlace_6, .int A_endPlace_6, .int A_wordsToFailure_6, .int A_opened_6])), (qA_ring, .inl (cA_ring, 65536, .inl A_ring_6)), (qA_buffer, .inl (cA_buffer, 200, .inl A_buffer_6))] H_6 := hP1
                    have hD : va_D A [(qA, .inr (0, [.ref qA_ring, .ref qA_buffer, .int A_firstPlace_6, .int A_forcedPlace_6, .int A_endPlace_6, .int A_wordsToFailure_6, .int A_opened_6])), (qA_ring, .inl (cA_ring, 65536, .inl A_ring_6)), (qA_buffer, .inl (cA_buffer, 200, .inl A_buffer_6))] := hD1.weaken (fun _ _ _ h => hFc _ h)
                    refine lv_aload_n hx hb dX0_append_135 rfl (lv_at hl 3 rfl) ?_
                    refine lv_iload_n hx hb dX0_append_136 rfl (lv_at hl 6 rfl) ?_
                    have hFc := va_free (wc := [(qA, .inr (0, [.ref qA_ring, .ref qA_buffer, .int A_firstPlace_6, .int A_forcedPlace_6, .int A_endPlace_6, .int A_wordsToFailure_6, .int A_opened_6])), (qA_ring, .inl (cA_ring, 65536, .inl A_ring_6)), (qA_buffer, .inl (cA_buffer, 200, .inl A_buffer_6))]) hD hS hA [0, 1, 2] rfl
                    refine va_callv (va_runV (As := [.int x3]) (rest := []) ⟨hx, hb, hml, hown, hbg⟩ (met_X0_addWord l dC dI qA qA_ring qA_buffer cA_ring cA_buffer H_6.size A_ring_6 A_buffer_6 A_firstPlace_6 A_forcedPlace_6 A_endPlace_6 A_wordsToFailure_6 A_opened_6 x3 _ hw) (cwV 1 hbg g_RX0_65 rfl rfl rfl (by decide +kernel) ⟨Nat.le_of_ble_eq_true rfl, Nat.le_of_ble_eq_true rfl⟩) ⟨pcW_A_b _ _ _ _ _ _ _ _ _ _ _ _ _ _ _ _, va_recv hK hP (ci := 0) (q0 := 0) rfl rfl, fun U hU hW => ⟨rfl, by rw [hU], by rw [hU]; exact hP, va_K.moved hW.alike hK, hD.weaken (fun _ _ _ _ => trivial)⟩⟩ rfl rfl hl.1 rfl (lv_room (Nat.le_of_ble_eq_true rfl)) dX0_append_137 ⟨Nat.le_of_ble_eq_true rfl, Nat.le_of_ble_eq_true rfl⟩) hS (fun q _ h => hFc q h) hFc (fun u_7 t_7 H_7 locs ht hvm hw hB hz1 hk1 hS => ?_)
                    obtain ⟨A_ring_7, A_buffer_7, A_firstPlace_7, A_forcedPlace_7, A_endPlace_7, A_wordsToFailure_7, A_opened_7⟩ := u_7
                    obtain ⟨hP1, hK1, hD1⟩ := hB
                    rw [ht] at hP1
                    try dsimp only at hw
                    have hP : va_P (dC, dI) vwCl [(qA, .inr (0, [.ref qA_ring, .ref qA_buffer, .int A_firstPlace_7, .int A_forcedPlace_7, .int A_endPlace_7, .int A_wordsToFailure_7, .int A_opened_7])), (qA_ring, .inl (cA_ring, 65536, .inl A_ring_7)), (qA_buffer, .inl (cA_buffer, 200, .inl A_buffer_7))] H_7 := hP1
                    have hD : va_D A [(qA, .inr (0, [.ref qA_ring, .ref qA_buffer, .int A_firstPlace_7, .int A_forcedPlace_7, .int A_endPlace_7, .int A_wordsToFailure_7, .int A_opened_7])), (qA_ring, .inl (cA_ring, 65536, .inl A_ring_7)), (qA_buffer, .inl (cA_buffer, 200, .inl A_buffer_7))] := hD1.weaken (fun _ _ _ h => hFc _ h)
                    refine lv_aload_n hx hb dX0_append_140 rfl (lv_at hl 3 rfl) ?_
                    refine lv_iload hx hb dX0_append_141 (lv_at hl 7 rfl) ?_
                    have hFc := va_free (wc := [(qA, .inr (0, [.ref qA_ring, .ref qA_buffer, .int A_firstPlace_7, .int A_forcedPlace_7, .int A_endPlace_7, .int A_wordsToFailure_7, .int A_opened_7])), (qA_ring, .inl (cA_ring, 65536, .inl A_ring_7)), (qA_buffer, .inl (cA_buffer, 200, .inl A_buffer_7))]) hD hS hA [0, 1, 2] rfl
                    refine va_callv (va_runV (As := [.int x4]) (rest := []) ⟨hx, hb, hml, hown, hbg⟩ (met_X0_addContent l dC dI qA qA_ring qA_buffer cA_ring cA_buffer H_7.size A_ring_7 A_buffer_7 A_firstPlace_7 A_forcedPlace_7 A_endPlace_7 A_wordsToFailure_7 A_opened_7 x4 _ hw) (cwV 1 hbg g_RX0_68 rfl rfl rfl (by decide +kernel) ⟨Nat.le_of_ble_eq_true rfl, Nat.le_of_ble_eq_true rfl⟩) ⟨pcW_A_b _ _ _ _ _ _ _ _ _ _ _ _ _ _ _ _, va_recv hK hP (ci := 0) (q0 := 0) rfl rfl, fun U hU hW => ⟨rfl, by rw [hU], by rw [hU]; exact hP, va_K.moved hW.alike hK, hD.weaken (fun _ _ _ _ => trivial)⟩⟩ rfl rfl hl.1 rfl (lv_room (Nat.le_of_ble_eq_true rfl)) dX0_append_143 ⟨Nat.le_of_ble_eq_true rfl, Nat.le_of_ble_eq_true rfl⟩) hS (fun q _ h => hFc q h) hFc (fun u_8 t_8 H_8 locs ht hvm hw hB hz1 hk1 hS => ?_)
                    obtain ⟨A_ring_8, A_buffer_8, A_firstPlace_8, A_forcedPlace_8, A_endPlace_8, A_wordsToFailure_8, A_opened_8⟩ := u_8
                    obtain ⟨hP1, hK1, hD1⟩ := hB
                    rw [ht] at hP1
                    try dsimp only at hw
                    have hP : va_P (dC, dI) vwCl [(qA, .inr (0, [.ref qA_ring, .ref qA_buffer, .int A_firstPlace_8, .int A_forcedPlace_8, .int A_endPlace_8, .int A_wordsToFailure_8, .int A_opened_8])), (qA_ring, .inl (cA_ring, 65536, .inl A_ring_8)), (qA_buffer, .inl (cA_buffer, 200, .inl A_buffer_8))] H_8 := hP1
                    have hD : va_D A [(qA, .inr (0, [.ref qA_ring, .ref qA_buffer, .int A_firstPlace_8, .int A_forcedPlace_8, .int A_endPlace_8, .int A_wordsToFailure_8, .int A_opened_8])), (qA_ring, .inl (cA_ring, 65536, .inl A_ring_8)), (qA_buffer, .inl (cA_buffer, 200, .inl A_buffer_8))] := hD1.weaken (fun _ _ _ h => hFc _ h)
                    refine lv_aload_n hx hb dX0_append_146 rfl (lv_at hl 3 rfl) ?_
                    refine lv_iload hx hb dX0_append_147 (lv_at hl 2 rfl) ?_
                    have hFc := va_free (wc := [(qA, .inr (0, [.ref qA_ring, .ref qA_buffer, .int A_firstPlace_8, .int A_forcedPlace_8, .int A_endPlace_8, .int A_wordsToFailure_8, .int A_opened_8])), (qA_ring, .inl (cA_ring, 65536, .inl A_ring_8)), (qA_buffer, .inl (cA_buffer, 200, .inl A_buffer_8))]) hD hS hA [0, 1, 2] rfl
                    refine va_callv (va_runV (As := [.int (x4 + (5 : Int32))]) (rest := []) ⟨hx, hb, hml, hown, hbg⟩ (met_X0_addWord l dC dI qA qA_ring qA_buffer cA_ring cA_buffer H_8.size A_ring_8 A_buffer_8 A_firstPlace_8 A_forcedPlace_8 A_endPlace_8 A_wordsToFailure_8 A_opened_8 (x4 + (5 : Int32)) _ hw) (cwV 1 hbg g_RX0_65 rfl rfl rfl (by decide +kernel) ⟨Nat.le_of_ble_eq_true rfl, Nat.le_of_ble_eq_true rfl⟩) ⟨pcW_A_b _ _ _ _ _ _ _ _ _ _ _ _ _ _ _ _, va_recv hK hP (ci := 0) (q0 := 0) rfl rfl, fun U hU hW => ⟨rfl, by rw [hU], by rw [hU]; exact hP, va_K.moved hW.alike hK, hD.weaken (fun _ _ _ _ => trivial)⟩⟩ rfl rfl hl.1 rfl (lv_room (Nat.le_of_ble_eq_true rfl)) dX0_append_149 ⟨Nat.le_of_ble_eq_true rfl, Nat.le_of_ble_eq_true rfl⟩) hS (fun q _ h => hFc q h) hFc (fun u_9 t_9 H_9 locs ht hvm hw hB hz1 hk1 hS => ?_)
                    obtain ⟨A_ring_9, A_buffer_9, A_firstPlace_9, A_forcedPlace_9, A_endPlace_9, A_wordsToFailure_9, A_opened_9⟩ := u_9
                    obtain ⟨hP1, hK1, hD1⟩ := hB
                    rw [ht] at hP1
                    try dsimp only at hw
                    have hP : va_P (dC, dI) vwCl [(qA, .inr (0, [.ref qA_ring, .ref qA_buffer, .int A_firstPlace_9, .int A_forcedPlace_9, .int A_endPlace_9, .int A_wordsToFailure_9, .int A_opened_9])), (qA_ring, .inl (cA_ring, 65536, .inl A_ring_9)), (qA_buffer, .inl (cA_buffer, 200, .inl A_buffer_9))] H_9 := hP1
                    have hD : va_D A [(qA, .inr (0, [.ref qA_ring, .ref qA_buffer, .int A_firstPlace_9, .int A_forcedPlace_9, .int A_endPlace_9, .int A_wordsToFailure_9, .int A_opened_9])), (qA_ring, .inl (cA_ring, 65536, .inl A_ring_9)), (qA_buffer, .inl (cA_buffer, 200, .inl A_buffer_9))] := hD1.weaken (fun _ _ _ h => hFc _ h)
                    refine lv_iload hx hb dX0_append_152 (lv_at hl 1 rfl) ?_
                    subst hQQ
                    refine W.widen (k := 3) (n := 18) (Nat.le_of_ble_eq_true rfl) (Nat.le_of_ble_eq_true rfl) ?_
                    refine vx_ret ?_
                    exact W.iret (v := A_endPlace_2) hx hb hr (fun t ht hW => ⟨⟨A_endPlace_2, (A_ring_9, A_buffer_9, A_firstPlace_9, A_forcedPlace_9, A_endPlace_9, A_wordsToFailure_9, A_opened_9), rfl, hw, by rw [ht]; exact hP, va_K.moved hW.alike hK, hD⟩, hS.F ht⟩) hS.2.2 dX0_append_154
                  · have hw := hw.2 c9
                    refine lv_iconst (v := (-1 : Int32)) hx hb dX0_append_98 (by decide) ?_
                    subst hQQ
                    refine W.widen (k := 3) (n := 18) (Nat.le_of_ble_eq_true rfl) (Nat.le_of_ble_eq_true rfl) ?_
                    refine vx_ret ?_
                    exact W.iret (v := (-1 : Int32)) hx hb hr (fun t ht hW => ⟨⟨(-1 : Int32), (A_ring_2, A_buffer_2, A_firstPlace_2, A_forcedPlace_2, A_endPlace_2, A_wordsToFailure_2, A_opened_2), rfl, hw, by rw [ht]; exact hP, va_K.moved hW.alike hK, hD⟩, hS.F ht⟩) hS.2.2 dX0_append_99
                · have hw := hw.2 c9
                  subst hQQ
                  obtain ⟨sa, hsa⟩ := hXW0.2.2.1 (RX0, 59, "a link is NONE or a place before the end") (by decide +kernel)
                  exact vx_throwS (own := RX0) (cls := "java/lang/IllegalArgumentException") (names := ["java/lang/RuntimeException", "java/lang/Exception"]) hx hb hl9 hown (by decide +kernel) (by decide +kernel) (hbg _ kw_69) (hbg _ kw_70) hsa (vx_hat (L := vx_atS RX0 56 "java/lang/IllegalArgumentException" ["java/lang/RuntimeException", "java/lang/Exception"]) (B := [.castable "java/lang/IllegalArgumentException" "java/lang/IllegalArgumentException", .declares ⟨"java/lang/RuntimeException", "<init>", "(Ljava/lang/String;)V"⟩, .declares ⟨"java/lang/Exception", "<init>", "(Ljava/lang/String;)V"⟩, .declares ⟨"java/lang/Throwable", "<init>", "(Ljava/lang/String;)V"⟩]) (fun w hw => hbg w (xa_RX0_56 w hw)) (by decide +kernel) (vx_c (va_Nw.use rfl (hXW0.1 "java/lang/IllegalArgumentException" (by decide))) (vx_c (va_Nw.use rfl (hXW0.2.1 "java/lang/RuntimeException" (by decide))) (vx_c (va_Nw.use rfl (hXW0.2.1 "java/lang/Exception" (by decide))) (vx_c (va_Nw.use rfl (hXW0.2.1 "java/lang/Throwable" (by decide))) (vx_n)))))) (by decide +kernel) hXW0.2.2.2.2.1 hXW0.2.2.2.2.2 hS (hl.1.trans hml.symm) dX0_append_65 dX0_append_68 dX0_append_69 dX0_append_71 dX0_append_74 (fun x hx => (hEx x hx).elim) (Nat.le_of_ble_eq_true rfl) (Nat.le_of_ble_eq_true rfl) (Nat.le_of_ble_eq_true rfl) (Nat.le_of_ble_eq_true rfl) hlocks (fun t ha hsz hk => ⟨("java/lang/IllegalArgumentException", (A_ring_2, A_buffer_2, A_firstPlace_2, A_forcedPlace_2, A_endPlace_2, A_wordsToFailure_2, A_opened_2)), hw, ⟨rfl, hP.kept (fun k q hq => hk q.1 (hP k q hq).lt), va_K.moved ha hK, hD⟩, Nat.le_trans hS.1 hsz, fun q h1 h2 => (hk q (Nat.lt_of_lt_of_le h1 hS.1)).trans (hS.2.1 q h1 h2)⟩) hS.2.2 (Nat.le_of_ble_eq_true rfl) (Nat.le_of_ble_eq_true rfl)
            · have hw := hw.2 c9
              subst hQQ
              obtain ⟨sa, hsa⟩ := hXW0.2.2.1 (RX0, 57, "a content has 0 .. 200 words") (by decide +kernel)
              exact vx_throwS (own := RX0) (cls := "java/lang/IllegalArgumentException") (names := ["java/lang/RuntimeException", "java/lang/Exception"]) hx hb hl9 hown (by decide +kernel) (by decide +kernel) (hbg _ kw_69) (hbg _ kw_70) hsa (vx_hat (L := vx_atS RX0 56 "java/lang/IllegalArgumentException" ["java/lang/RuntimeException", "java/lang/Exception"]) (B := [.castable "java/lang/IllegalArgumentException" "java/lang/IllegalArgumentException", .declares ⟨"java/lang/RuntimeException", "<init>", "(Ljava/lang/String;)V"⟩, .declares ⟨"java/lang/Exception", "<init>", "(Ljava/lang/String;)V"⟩, .declares ⟨"java/lang/Throwable", "<init>", "(Ljava/lang/String;)V"⟩]) (fun w hw => hbg w (xa_RX0_56 w hw)) (by decide +kernel) (vx_c (va_Nw.use rfl (hXW0.1 "java/lang/IllegalArgumentException" (by decide))) (vx_c (va_Nw.use rfl (hXW0.2.1 "java/lang/RuntimeException" (by decide))) (vx_c (va_Nw.use rfl (hXW0.2.1 "java/lang/Exception" (by decide))) (vx_c (va_Nw.use rfl (hXW0.2.1 "java/lang/Throwable" (by decide))) (vx_n)))))) (by decide +kernel) hXW0.2.2.2.2.1 hXW0.2.2.2.2.2 hS (hl.1.trans hml.symm) dX0_append_42 dX0_append_45 dX0_append_46 dX0_append_48 dX0_append_51 (fun x hx => (hEx x hx).elim) (Nat.le_of_ble_eq_true rfl) (Nat.le_of_ble_eq_true rfl) (Nat.le_of_ble_eq_true rfl) (Nat.le_of_ble_eq_true rfl) hlocks (fun t ha hsz hk => ⟨("java/lang/IllegalArgumentException", (A_ring_2, A_buffer_2, A_firstPlace_2, A_forcedPlace_2, A_endPlace_2, A_wordsToFailure_2, A_opened_2)), hw, ⟨rfl, hP.kept (fun k q hq => hk q.1 (hP k q hq).lt), va_K.moved ha hK, hD⟩, Nat.le_trans hS.1 hsz, fun q h1 h2 => (hk q (Nat.lt_of_lt_of_le h1 hS.1)).trans (hS.2.1 q h1 h2)⟩) hS.2.2 (Nat.le_of_ble_eq_true rfl) (Nat.le_of_ble_eq_true rfl)
        · have hw := hw.2 c9
          subst hQQ
          obtain ⟨sa, hsa⟩ := hXW0.2.2.1 (RX0, 54, "kinds are 0 .. 15") (by decide +kernel)
          exact vx_throwS (own := RX0) (cls := "java/lang/IllegalArgumentException") (names := ["java/lang/RuntimeException", "java/lang/Exception"]) hx hb hl9 hown (by decide +kernel) (by decide +kernel) (hbg _ kw_69) (hbg _ kw_70) hsa (vx_hat (L := vx_atS RX0 56 "java/lang/IllegalArgumentException" ["java/lang/RuntimeException", "java/lang/Exception"]) (B := [.castable "java/lang/IllegalArgumentException" "java/lang/IllegalArgumentException", .declares ⟨"java/lang/RuntimeException", "<init>", "(Ljava/lang/String;)V"⟩, .declares ⟨"java/lang/Exception", "<init>", "(Ljava/lang/String;)V"⟩, .declares ⟨"java/lang/Throwable", "<init>", "(Ljava/lang/String;)V"⟩]) (fun w hw => hbg w (xa_RX0_56 w hw)) (by decide +kernel) (vx_c (va_Nw.use rfl (hXW0.1 "java/lang/IllegalArgumentException" (by decide))) (vx_c (va_Nw.use rfl (hXW0.2.1 "java/lang/RuntimeException" (by decide))) (vx_c (va_Nw.use rfl (hXW0.2.1 "java/lang/Exception" (by decide))) (vx_c (va_Nw.use rfl (hXW0.2.1 "java/lang/Throwable" (by decide))) (vx_n)))))) (by decide +kernel) hXW0.2.2.2.2.1 hXW0.2.2.2.2.2 hS (hl.1.trans hml.symm) dX0_append_19 dX0_append_22 dX0_append_23 dX0_append_25 dX0_append_28 (fun x hx => (hEx x hx).elim) (Nat.le_of_ble_eq_true rfl) (Nat.le_of_ble_eq_true rfl) (Nat.le_of_ble_eq_true rfl) (Nat.le_of_ble_eq_true rfl) hlocks (fun t ha hsz hk => ⟨("java/lang/IllegalArgumentException", (A_ring_2, A_buffer_2, A_firstPlace_2, A_forcedPlace_2, A_endPlace_2, A_wordsToFailure_2, A_opened_2)), hw, ⟨rfl, hP.kept (fun k q hq => hk q.1 (hP k q hq).lt), va_K.moved ha hK, hD⟩, Nat.le_trans hS.1 hsz, fun q h1 h2 => (hk q (Nat.lt_of_lt_of_le h1 hS.1)).trans (hS.2.1 q h1 h2)⟩) hS.2.2 (Nat.le_of_ble_eq_true rfl) (Nat.le_of_ble_eq_true rfl)
def wp_X0_force (post : Int32 → St_A → Prop) (px : String → St_A → Prop) (x1 : Int32) (A_ring : Nat → Int32) (A_buffer : Nat → Int32) (A_firstPlace : Int32) (A_forcedPlace : Int32) (A_endPlace : Int32) (A_wordsToFailure : Int32) (A_opened : Int32) : Prop :=
  wp_X0_requireOpen (fun u_1 => match u_1 with | (A_ring_1, A_buffer_1, A_firstPlace_1, A_forcedPlace_1, A_endPlace_1, A_wordsToFailure_1, A_opened_1) => wp_X0_requireRecord (fun u_2 => match u_2 with | (A_ring_2, A_buffer_2, A_firstPlace_2, A_forcedPlace_2, A_endPlace_2, A_wordsToFailure_2, A_opened_2) => wp_X0_behind (fun r_3 => wp_X0_writeUpTo (fun r_4 u_4 => match u_4 with | (A_ring_4, A_buffer_4, A_firstPlace_4, A_forcedPlace_4, A_endPlace_4, A_wordsToFailure_4, A_opened_4) => post r_4 (A_ring_4, A_buffer_4, A_firstPlace_4, A_forcedPlace_4, A_endPlace_4, A_wordsToFailure_4, A_opened_4)) r_3 A_ring_2 A_buffer_2 A_firstPlace_2 A_forcedPlace_2 A_endPlace_2 A_wordsToFailure_2 A_opened_2) x1 A_ring_2 A_buffer_2 A_firstPlace_2 A_forcedPlace_2 A_endPlace_2 A_wordsToFailure_2 A_opened_2) px x1 A_ring_1 A_buffer_1 A_firstPlace_1 A_forcedPlace_1 A_endPlace_1 A_wordsToFailure_1 A_opened_1) px A_ring A_buffer A_firstPlace A_forcedPlace A_endPlace A_wordsToFailure A_opened
set_option maxHeartbeats 4000000 in
set_option maxRecDepth 100000 in
theorem met_X0_force (l : Launch) (hl9 : l.stackTraces = false) (dC : Nat → ClassId) (dI : Nat → Nat → Nat) (qA qA_ring qA_buffer : Nat) (cA_ring cA_buffer : ClassId) (sz : Nat) (A_ring : Nat → Int32) (A_buffer : Nat → Int32) (A_firstPlace : Int32) (A_forcedPlace : Int32) (A_endPlace : Int32) (A_wordsToFailure : Int32) (A_opened : Int32) (x1 : Int32) (post : Int32 → St_A → Prop) (px : String → St_A → Prop) (hw : wp_X0_force post px x1 A_ring A_buffer A_firstPlace A_forcedPlace A_endPlace A_wordsToFailure A_opened) :
    vx_Met l yX0_force wsX0_force ({ frames := 7, cells := 2, slots := 12, locals := 117 } : Room) (pcX_A dC dI qA qA_ring qA_buffer cA_ring cA_buffer sz A_ring A_buffer A_firstPlace A_forcedPlace A_endPlace A_wordsToFailure A_opened [.ref qA, .int x1]) (va_Qi post (at_A dC dI (va_A [(qA, .inr (0, [.ref qA_ring, .ref qA_buffer, .int A_firstPlace, .int A_forcedPlace, .int A_endPlace, .int A_wordsToFailure, .int A_opened])), (qA_ring, .inl (cA_ring, 65536, .inl A_ring)), (qA_buffer, .inl (cA_buffer, 200, .inl A_buffer))] sz) qA qA_ring qA_buffer cA_ring cA_buffer) (va_A [(qA, .inr (0, [.ref qA_ring, .ref qA_buffer, .int A_firstPlace, .int A_forcedPlace, .int A_endPlace, .int A_wordsToFailure, .int A_opened])), (qA_ring, .inl (cA_ring, 65536, .inl A_ring)), (qA_buffer, .inl (cA_buffer, 200, .inl A_buffer))] sz)) (vx_X (fun u => px u.1 u.2) (atx_A dC dI (va_A [(qA, .inr (0, [.ref qA_ring, .ref qA_buffer, .int A_firstPlace, .int A_forcedPlace, .int A_endPlace, .int A_wordsToFailure, .int A_opened])), (qA_ring, .inl (cA_ring, 65536, .inl A_ring)), (qA_buffer, .inl (cA_buffer, 200, .inl A_buffer))] sz) qA qA_ring qA_buffer cA_ring cA_buffer) (va_A [(qA, .inr (0, [.ref qA_ring, .ref qA_buffer, .int A_firstPlace, .int A_forcedPlace, .int A_endPlace, .int A_wordsToFailure, .int A_opened])), (qA_ring, .inl (cA_ring, 65536, .inl A_ring)), (qA_buffer, .inl (cA_buffer, 200, .inl A_buffer))] sz)) 2 12 (va_A [(qA, .inr (0, [.ref qA_ring, .ref qA_buffer, .int A_firstPlace, .int A_forcedPlace, .int A_endPlace, .int A_wordsToFailure, .int A_opened])), (qA_ring, .inl (cA_ring, 65536, .inl A_ring)), (qA_buffer, .inl (cA_buffer, 200, .inl A_buffer))] sz) := by
  refine vx_ofW (cc := cX0_force) (maxL := 2) (ret := (some .int)) (by decide) rfl ?_
  intro p e s m args below meth c s₁ B hml hEx hv
  obtain ⟨hav, hsz, hP, hK, hD0, hXW0⟩ := hv
  have hx := B.exec
  have hb := B.bytes
  have hr := B.returns
  have hts := atoms_spec (ws := wsX0_force) B.pre
  have hbg : ∀ w ∈ bigW, w.before args s = true := fun w h => hts w (List.mem_cons_of_mem _ h)
  have hown : s.vm.findClass RX0 = some m.cls := findClass_of_methodNamed B.named
  have hlocks := B.notSynchronized
  subst hsz
  have hD := hD0.self (sz := s.heap.size)
  generalize hAe : va_A [(qA, .inr (0, [.ref qA_ring, .ref qA_buffer, .int A_firstPlace, .int A_forcedPlace, .int A_endPlace, .int A_wordsToFailure, .int A_opened])), (qA_ring, .inl (cA_ring, 65536, .inl A_ring)), (qA_buffer, .inl (cA_buffer, 200, .inl A_buffer))] s.heap.size = A at hD hXW0 ⊢
  have hA : ∀ q : Nat, s.heap.size ≤ q → A q := fun q h => by rw [← hAe]; exact Or.inr h
  have hS : va_S A s.heap s.heap [] := va_S.rf
  have hP : va_P (dC, dI) vwCl [(qA, .inr (0, [.ref qA_ring, .ref qA_buffer, .int A_firstPlace, .int A_forcedPlace, .int A_endPlace, .int A_wordsToFailure, .int A_opened])), (qA_ring, .inl (cA_ring, 65536, .inl A_ring)), (qA_buffer, .inl (cA_buffer, 200, .inl A_buffer))] s.heap := hP
  generalize hQQ : vx_MQ below (va_Qi post (at_A dC dI A qA qA_ring qA_buffer cA_ring cA_buffer) A) (vx_X (fun u => px u.1 u.2) (atx_A dC dI A qA qA_ring qA_buffer cA_ring cA_buffer) A) args s 2 12 A = QQ
  have hl := lv_entry ([.ref qA, .int x1]) (n := 2) (Nat.le_of_ble_eq_true rfl)
  rw [show entryFrame m args 2 = entryFrame m ([.ref qA, .int x1] : List Value).toArray 2 by rw [hav], lg_entry_eq]
  generalize (lg_sl ([.ref qA, .int x1]) ++ List.replicate (2 - (lg_sl ([.ref qA, .int x1])).length) Slot.unset).toArray = ls at hl ⊢
  have hl : lv_has ls 2 [(0, .ref qA), (1, .int x1)] := hl
  unfold wp_X0_force at hw
  refine lv_aload_n hx hb dX0_force_0 rfl (lv_at hl 0 rfl) ?_
  have hFc := va_free (wc := [(qA, .inr (0, [.ref qA_ring, .ref qA_buffer, .int A_firstPlace, .int A_forcedPlace, .int A_endPlace, .int A_wordsToFailure, .int A_opened])), (qA_ring, .inl (cA_ring, 65536, .inl A_ring)), (qA_buffer, .inl (cA_buffer, 200, .inl A_buffer))]) hD hS hA [0, 1, 2] rfl
  refine vx_callv (vx_runV (As := []) (rest := []) ⟨hx, hb, hml, hown, hbg⟩ (met_X0_requireOpen l hl9 dC dI qA qA_ring qA_buffer cA_ring cA_buffer s.heap.size A_ring A_buffer A_firstPlace A_forcedPlace A_endPlace A_wordsToFailure A_opened  _ _ hw) (cwV 0 hbg g_RX0_34 rfl rfl rfl (by decide +kernel) ⟨Nat.le_of_ble_eq_true rfl, Nat.le_of_ble_eq_true rfl⟩) ⟨pcX_A_b _ _ _ _ _ _ _ _ _ _ _ _ _ _ _ _, va_recv hK hP (ci := 0) (q0 := 0) rfl rfl, fun U hU hW => ⟨rfl, by rw [hU], by rw [hU]; exact hP, va_K.moved hW.alike hK, hD.weaken (fun _ _ _ _ => trivial), XW.go hXW0 hS hFc hU hW⟩⟩ rfl rfl hl.1 rfl (lv_room (Nat.le_of_ble_eq_true rfl)) dX0_force_1 ⟨Nat.le_of_ble_eq_true rfl, Nat.le_of_ble_eq_true rfl⟩) hS (fun q _ h => hFc q h) hFc (fun q _ h => hFc q h) (fun E9 ce9 q9 u9 t9 H_1 locs ht hvm hpx hBX hz1 hk1 hS hce hcv hcl => ?_) (fun u_1 t_1 H_1 locs ht hvm hw hB hz1 hk1 hS => ?_)
  · obtain ⟨E8, A_ring_x1, A_buffer_x1, A_firstPlace_x1, A_forcedPlace_x1, A_endPlace_x1, A_wordsToFailure_x1, A_opened_x1⟩ := u9
    obtain ⟨rfl, hP1, hK1, hD1⟩ := hBX
    rw [ht] at hP1
    have hP : va_P (dC, dI) vwCl [(qA, .inr (0, [.ref qA_ring, .ref qA_buffer, .int A_firstPlace_x1, .int A_forcedPlace_x1, .int A_endPlace_x1, .int A_wordsToFailure_x1, .int A_opened_x1])), (qA_ring, .inl (cA_ring, 65536, .inl A_ring_x1)), (qA_buffer, .inl (cA_buffer, 200, .inl A_buffer_x1))] H_1 := hP1
    have hD : va_D A [(qA, .inr (0, [.ref qA_ring, .ref qA_buffer, .int A_firstPlace_x1, .int A_forcedPlace_x1, .int A_endPlace_x1, .int A_wordsToFailure_x1, .int A_opened_x1])), (qA_ring, .inl (cA_ring, 65536, .inl A_ring_x1)), (qA_buffer, .inl (cA_buffer, 200, .inl A_buffer_x1))] := hD1.weaken (fun _ _ _ h => hFc _ h)
    subst hQQ
    exact vx_out (fun x hx => (hEx x hx).elim) hlocks hce hcv hcl (fun t ht ha => ⟨(E9, (A_ring_x1, A_buffer_x1, A_firstPlace_x1, A_forcedPlace_x1, A_endPlace_x1, A_wordsToFailure_x1, A_opened_x1)), hpx, ⟨rfl, by rw [ht]; exact hP, va_K.moved ha hK, hD⟩, hS.F ht⟩) hS.2.2 (Nat.le_of_ble_eq_true rfl) (Nat.le_of_ble_eq_true rfl)
  · obtain ⟨A_ring_1, A_buffer_1, A_firstPlace_1, A_forcedPlace_1, A_endPlace_1, A_wordsToFailure_1, A_opened_1⟩ := u_1
    obtain ⟨hP1, hK1, hD1⟩ := hB
    rw [ht] at hP1
    try dsimp only at hw
    have hP : va_P (dC, dI) vwCl [(qA, .inr (0, [.ref qA_ring, .ref qA_buffer, .int A_firstPlace_1, .int A_forcedPlace_1, .int A_endPlace_1, .int A_wordsToFailure_1, .int A_opened_1])), (qA_ring, .inl (cA_ring, 65536, .inl A_ring_1)), (qA_buffer, .inl (cA_buffer, 200, .inl A_buffer_1))] H_1 := hP1
    have hD : va_D A [(qA, .inr (0, [.ref qA_ring, .ref qA_buffer, .int A_firstPlace_1, .int A_forcedPlace_1, .int A_endPlace_1, .int A_wordsToFailure_1, .int A_opened_1])), (qA_ring, .inl (cA_ring, 65536, .inl A_ring_1)), (qA_buffer, .inl (cA_buffer, 200, .inl A_buffer_1))] := hD1.weaken (fun _ _ _ h => hFc _ h)
    refine W.widen (k := 1) (n := 6) (Nat.le_of_ble_eq_true rfl) (Nat.le_of_ble_eq_true rfl) ?_
    refine lv_aload_n hx hb dX0_force_4 rfl (lv_at hl 0 rfl) ?_
    refine lv_iload_n hx hb dX0_force_5 rfl (lv_at hl 1 rfl) ?_
    have hFc := va_free (wc := [(qA, .inr (0, [.ref qA_ring, .ref qA_buffer, .int A_firstPlace_1, .int A_forcedPlace_1, .int A_endPlace_1, .int A_wordsToFailure_1, .int A_opened_1])), (qA_ring, .inl (cA_ring, 65536, .inl A_ring_1)), (qA_buffer, .inl (cA_buffer, 200, .inl A_buffer_1))]) hD hS hA [0, 1, 2] rfl
    refine vx_callv (vx_runV (As := [.int x1]) (rest := []) ⟨hx, hb, hml, hown, hbg⟩ (met_X0_requireRecord l hl9 dC dI qA qA_ring qA_buffer cA_ring cA_buffer H_1.size A_ring_1 A_buffer_1 A_firstPlace_1 A_forcedPlace_1 A_endPlace_1 A_wordsToFailure_1 A_opened_1 x1 _ _ hw) (cwV 1 hbg g_RX0_71 rfl rfl rfl (by decide +kernel) ⟨Nat.le_of_ble_eq_true rfl, Nat.le_of_ble_eq_true rfl⟩) ⟨pcX_A_b _ _ _ _ _ _ _ _ _ _ _ _ _ _ _ _, va_recv hK hP (ci := 0) (q0 := 0) rfl rfl, fun U hU hW => ⟨rfl, by rw [hU], by rw [hU]; exact hP, va_K.moved hW.alike hK, hD.weaken (fun _ _ _ _ => trivial), XW.go hXW0 hS hFc hU hW⟩⟩ rfl rfl hl.1 rfl (lv_room (Nat.le_of_ble_eq_true rfl)) dX0_force_6 ⟨Nat.le_of_ble_eq_true rfl, Nat.le_of_ble_eq_true rfl⟩) hS (fun q _ h => hFc q h) hFc (fun q _ h => hFc q h) (fun E9 ce9 q9 u9 t9 H_2 locs ht hvm hpx hBX hz1 hk1 hS hce hcv hcl => ?_) (fun u_2 t_2 H_2 locs ht hvm hw hB hz1 hk1 hS => ?_)
    · obtain ⟨E8, A_ring_x2, A_buffer_x2, A_firstPlace_x2, A_forcedPlace_x2, A_endPlace_x2, A_wordsToFailure_x2, A_opened_x2⟩ := u9
      obtain ⟨rfl, hP1, hK1, hD1⟩ := hBX
      rw [ht] at hP1
      have hP : va_P (dC, dI) vwCl [(qA, .inr (0, [.ref qA_ring, .ref qA_buffer, .int A_firstPlace_x2, .int A_forcedPlace_x2, .int A_endPlace_x2, .int A_wordsToFailure_x2, .int A_opened_x2])), (qA_ring, .inl (cA_ring, 65536, .inl A_ring_x2)), (qA_buffer, .inl (cA_buffer, 200, .inl A_buffer_x2))] H_2 := hP1
      have hD : va_D A [(qA, .inr (0, [.ref qA_ring, .ref qA_buffer, .int A_firstPlace_x2, .int A_forcedPlace_x2, .int A_endPlace_x2, .int A_wordsToFailure_x2, .int A_opened_x2])), (qA_ring, .inl (cA_ring, 65536, .inl A_ring_x2)), (qA_buffer, .inl (cA_buffer, 200, .inl A_buffer_x2))] := hD1.weaken (fun _ _ _ h => hFc _ h)
      subst hQQ
      exact vx_out (fun x hx => (hEx x hx).elim) hlocks hce hcv hcl (fun t ht ha => ⟨(E9, (A_ring_x2, A_buffer_x2, A_firstPlace_x2, A_forcedPlace_x2, A_endPlace_x2, A_wordsToFailure_x2, A_opened_x2)), hpx, ⟨rfl, by rw [ht]; exact hP, va_K.moved ha hK, hD⟩, hS.F ht⟩) hS.2.2 (Nat.le_of_ble_eq_true rfl) (Nat.le_of_ble_eq_true rfl)
    · obtain ⟨A_ring_2, A_buffer_2, A_firstPlace_2, A_forcedPlace_2, A_endPlace_2, A_wordsToFailure_2, A_opened_2⟩ := u_2
      obtain ⟨hP1, hK1, hD1⟩ := hB
      rw [ht] at hP1
      try dsimp only at hw
      have hP : va_P (dC, dI) vwCl [(qA, .inr (0, [.ref qA_ring, .ref qA_buffer, .int A_firstPlace_2, .int A_forcedPlace_2, .int A_endPlace_2, .int A_wordsToFailure_2, .int A_opened_2])), (qA_ring, .inl (cA_ring, 65536, .inl A_ring_2)), (qA_buffer, .inl (cA_buffer, 200, .inl A_buffer_2))] H_2 := hP1
      have hD : va_D A [(qA, .inr (0, [.ref qA_ring, .ref qA_buffer, .int A_firstPlace_2, .int A_forcedPlace_2, .int A_endPlace_2, .int A_wordsToFailure_2, .int A_opened_2])), (qA_ring, .inl (cA_ring, 65536, .inl A_ring_2)), (qA_buffer, .inl (cA_buffer, 200, .inl A_buffer_2))] := hD1.weaken (fun _ _ _ h => hFc _ h)
      refine W.widen (k := 2) (n := 12) (Nat.le_of_ble_eq_true rfl) (Nat.le_of_ble_eq_true rfl) ?_
      refine lv_aload_n hx hb dX0_force_9 rfl (lv_at hl 0 rfl) ?_
      refine lv_aload_n hx hb dX0_force_10 rfl (lv_at hl 0 rfl) ?_
      refine lv_iload_n hx hb dX0_force_11 rfl (lv_at hl 1 rfl) ?_
      refine vp_callSi (W.runV (As := [.int x1]) (rest := [.ref qA]) ⟨hx, hb, hml, hown, hbg⟩ (met_X0_behind l dC dI qA qA_ring qA_buffer cA_ring cA_buffer A_ring_2 A_buffer_2 A_firstPlace_2 A_forcedPlace_2 A_endPlace_2 A_wordsToFailure_2 A_opened_2 x1 _ hw) (cwV 1 hbg g_RX0_74 rfl rfl rfl (by decide +kernel) ⟨Nat.le_of_ble_eq_true rfl, Nat.le_of_ble_eq_true rfl⟩) ⟨pcR_A_b _ _ _ _ _ _ _ _ _ _ _ _ _ _ _ , va_recv hK hP (ci := 0) (q0 := 0) rfl rfl, fun U hU hW => ⟨rfl, by rw [hU]; exact hP, va_K.moved hW.alike hK⟩⟩ rfl rfl hl.1 rfl (lv_room (Nat.le_of_ble_eq_true rfl)) dX0_force_12 ⟨Nat.le_of_ble_eq_true rfl, Nat.le_of_ble_eq_true rfl⟩) (fun r_3 hw => ?_)
      try dsimp only at hw
      have hFc := va_free (wc := [(qA, .inr (0, [.ref qA_ring, .ref qA_buffer, .int A_firstPlace_2, .int A_forcedPlace_2, .int A_endPlace_2, .int A_wordsToFailure_2, .int A_opened_2])), (qA_ring, .inl (cA_ring, 65536, .inl A_ring_2)), (qA_buffer, .inl (cA_buffer, 200, .inl A_buffer_2))]) hD hS hA [0, 1, 2] rfl
      refine va_calli (va_runV (As := [.int r_3]) (rest := []) ⟨hx, hb, hml, hown, hbg⟩ (met_X0_writeUpTo l dC dI qA qA_ring qA_buffer cA_ring cA_buffer H_2.size A_ring_2 A_buffer_2 A_firstPlace_2 A_forcedPlace_2 A_endPlace_2 A_wordsToFailure_2 A_opened_2 r_3 _ hw) (cwV 1 hbg g_RX0_77 rfl rfl rfl (by decide +kernel) ⟨Nat.le_of_ble_eq_true rfl, Nat.le_of_ble_eq_true rfl⟩) ⟨pcW_A_b _ _ _ _ _ _ _ _ _ _ _ _ _ _ _ _, va_recv hK hP (ci := 0) (q0 := 0) rfl rfl, fun U hU hW => ⟨rfl, by rw [hU], by rw [hU]; exact hP, va_K.moved hW.alike hK, hD.weaken (fun _ _ _ _ => trivial)⟩⟩ rfl rfl hl.1 rfl (lv_room (Nat.le_of_ble_eq_true rfl)) dX0_force_15 ⟨Nat.le_of_ble_eq_true rfl, Nat.le_of_ble_eq_true rfl⟩) hS (fun q _ h => hFc q h) hFc (fun r_4 u_4 t_4 H_4 locs ht hvm hw hB hz1 hk1 hS => ?_)
      obtain ⟨A_ring_4, A_buffer_4, A_firstPlace_4, A_forcedPlace_4, A_endPlace_4, A_wordsToFailure_4, A_opened_4⟩ := u_4
      obtain ⟨hP1, hK1, hD1⟩ := hB
      rw [ht] at hP1
      try dsimp only at hw
      have hP : va_P (dC, dI) vwCl [(qA, .inr (0, [.ref qA_ring, .ref qA_buffer, .int A_firstPlace_4, .int A_forcedPlace_4, .int A_endPlace_4, .int A_wordsToFailure_4, .int A_opened_4])), (qA_ring, .inl (cA_ring, 65536, .inl A_ring_4)), (qA_buffer, .inl (cA_buffer, 200, .inl A_buffer_4))] H_4 := hP1
      have hD : va_D A [(qA, .inr (0, [.ref qA_ring, .ref qA_buffer, .int A_firstPlace_4, .int A_forcedPlace_4, .int A_endPlace_4, .int A_wordsToFailure_4, .int A_opened_4])), (qA_ring, .inl (cA_ring, 65536, .inl A_ring_4)), (qA_buffer, .inl (cA_buffer, 200, .inl A_buffer_4))] := hD1.weaken (fun _ _ _ h => hFc _ h)
      subst hQQ
      refine W.widen (k := 2) (n := 12) (Nat.le_of_ble_eq_true rfl) (Nat.le_of_ble_eq_true rfl) ?_
      refine vx_ret ?_
      exact W.iret (v := r_4) hx hb hr (fun t ht hW => ⟨⟨r_4, (A_ring_4, A_buffer_4, A_firstPlace_4, A_forcedPlace_4, A_endPlace_4, A_wordsToFailure_4, A_opened_4), rfl, hw, by rw [ht]; exact hP, va_K.moved hW.alike hK, hD⟩, hS.F ht⟩) hS.2.2 dX0_force_18
def wp_X0_forceAll (post : Int32 → St_A → Prop) (px : String → St_A → Prop) (A_ring : Nat → Int32) (A_buffer : Nat → Int32) (A_firstPlace : Int32) (A_forcedPlace : Int32) (A_endPlace : Int32) (A_wordsToFailure : Int32) (A_opened : Int32) : Prop :=
  wp_X0_requireOpen (fun u_1 => match u_1 with | (A_ring_1, A_buffer_1, A_firstPlace_1, A_forcedPlace_1, A_endPlace_1, A_wordsToFailure_1, A_opened_1) => wp_X0_writeUpTo (fun r_2 u_2 => match u_2 with | (A_ring_2, A_buffer_2, A_firstPlace_2, A_forcedPlace_2, A_endPlace_2, A_wordsToFailure_2, A_opened_2) => post r_2 (A_ring_2, A_buffer_2, A_firstPlace_2, A_forcedPlace_2, A_endPlace_2, A_wordsToFailure_2, A_opened_2)) A_endPlace_1 A_ring_1 A_buffer_1 A_firstPlace_1 A_forcedPlace_1 A_endPlace_1 A_wordsToFailure_1 A_opened_1) px A_ring A_buffer A_firstPlace A_forcedPlace A_endPlace A_wordsToFailure A_opened
set_option maxHeartbeats 4000000 in
set_option maxRecDepth 100000 in
theorem met_X0_forceAll (l : Launch) (hl9 : l.stackTraces = false) (dC : Nat → ClassId) (dI : Nat → Nat → Nat) (qA qA_ring qA_buffer : Nat) (cA_ring cA_buffer : ClassId) (sz : Nat) (A_ring : Nat → Int32) (A_buffer : Nat → Int32) (A_firstPlace : Int32) (A_forcedPlace : Int32) (A_endPlace : Int32) (A_wordsToFailure : Int32) (A_opened : Int32) (post : Int32 → St_A → Prop) (px : String → St_A → Prop) (hw : wp_X0_forceAll post px A_ring A_buffer A_firstPlace A_forcedPlace A_endPlace A_wordsToFailure A_opened) :
    vx_Met l yX0_forceAll wsX0_forceAll ({ frames := 7, cells := 1, slots := 6, locals := 116 } : Room) (pcX_A dC dI qA qA_ring qA_buffer cA_ring cA_buffer sz A_ring A_buffer A_firstPlace A_forcedPlace A_endPlace A_wordsToFailure A_opened [.ref qA]) (va_Qi post (at_A dC dI (va_A [(qA, .inr (0, [.ref qA_ring, .ref qA_buffer, .int A_firstPlace, .int A_forcedPlace, .int A_endPlace, .int A_wordsToFailure, .int A_opened])), (qA_ring, .inl (cA_ring, 65536, .inl A_ring)), (qA_buffer, .inl (cA_buffer, 200, .inl A_buffer))] sz) qA qA_ring qA_buffer cA_ring cA_buffer) (va_A [(qA, .inr (0, [.ref qA_ring, .ref qA_buffer, .int A_firstPlace, .int A_forcedPlace, .int A_endPlace, .int A_wordsToFailure, .int A_opened])), (qA_ring, .inl (cA_ring, 65536, .inl A_ring)), (qA_buffer, .inl (cA_buffer, 200, .inl A_buffer))] sz)) (vx_X (fun u => px u.1 u.2) (atx_A dC dI (va_A [(qA, .inr (0, [.ref qA_ring, .ref qA_buffer, .int A_firstPlace, .int A_forcedPlace, .int A_endPlace, .int A_wordsToFailure, .int A_opened])), (qA_ring, .inl (cA_ring, 65536, .inl A_ring)), (qA_buffer, .inl (cA_buffer, 200, .inl A_buffer))] sz) qA qA_ring qA_buffer cA_ring cA_buffer) (va_A [(qA, .inr (0, [.ref qA_ring, .ref qA_buffer, .int A_firstPlace, .int A_forcedPlace, .int A_endPlace, .int A_wordsToFailure, .int A_opened])), (qA_ring, .inl (cA_ring, 65536, .inl A_ring)), (qA_buffer, .inl (cA_buffer, 200, .inl A_buffer))] sz)) 1 6 (va_A [(qA, .inr (0, [.ref qA_ring, .ref qA_buffer, .int A_firstPlace, .int A_forcedPlace, .int A_endPlace, .int A_wordsToFailure, .int A_opened])), (qA_ring, .inl (cA_ring, 65536, .inl A_ring)), (qA_buffer, .inl (cA_buffer, 200, .inl A_buffer))] sz) := by
  refine vx_ofW (cc := cX0_forceAll) (maxL := 1) (ret := (some .int)) (by decide) rfl ?_
  intro p e s m args below meth c s₁ B hml hEx hv
  obtain ⟨hav, hsz, hP, hK, hD0, hXW0⟩ := hv
  have hx := B.exec
  have hb := B.bytes
  have hr := B.returns
  have hts := atoms_spec (ws := wsX0_forceAll) B.pre
  have hbg : ∀ w ∈ bigW, w.before args s = true := fun w h => hts w (List.mem_cons_of_mem _ h)
  have hown : s.vm.findClass RX0 = some m.cls := findClass_of_methodNamed B.named
  have hlocks := B.notSynchronized
  subst hsz
  have hD := hD0.self (sz := s.heap.size)
  generalize hAe : va_A [(qA, .inr (0, [.ref qA_ring, .ref qA_buffer, .int A_firstPlace, .int A_forcedPlace, .int A_endPlace, .int A_wordsToFailure, .int A_opened])), (qA_ring, .inl (cA_ring, 65536, .inl A_ring)), (qA_buffer, .inl (cA_buffer, 200, .inl A_buffer))] s.heap.size = A at hD hXW0 ⊢
  have hA : ∀ q : Nat, s.heap.size ≤ q → A q := fun q h => by rw [← hAe]; exact Or.inr h
  have hS : va_S A s.heap s.heap [] := va_S.rf
  have hP : va_P (dC, dI) vwCl [(qA, .inr (0, [.ref qA_ring, .ref qA_buffer, .int A_firstPlace, .int A_forcedPlace, .int A_endPlace, .int A_wordsToFailure, .int A_opened])), (qA_ring, .inl (cA_ring, 65536, .inl A_ring)), (qA_buffer, .inl (cA_buffer, 200, .inl A_buffer))] s.heap := hP
  generalize hQQ : vx_MQ below (va_Qi post (at_A dC dI A qA qA_ring qA_buffer cA_ring cA_buffer) A) (vx_X (fun u => px u.1 u.2) (atx_A dC dI A qA qA_ring qA_buffer cA_ring cA_buffer) A) args s 1 6 A = QQ
  have hl := lv_entry ([.ref qA]) (n := 1) (Nat.le_of_ble_eq_true rfl)
  rw [show entryFrame m args 1 = entryFrame m ([.ref qA] : List Value).toArray 1 by rw [hav], lg_entry_eq]
  generalize (lg_sl ([.ref qA]) ++ List.replicate (1 - (lg_sl ([.ref qA])).length) Slot.unset).toArray = ls at hl ⊢
  have hl : lv_has ls 1 [(0, .ref qA)] := hl
  unfold wp_X0_forceAll at hw
  refine lv_aload_n hx hb dX0_forceAll_0 rfl (lv_at hl 0 rfl) ?_
  have hFc := va_free (wc := [(qA, .inr (0, [.ref qA_ring, .ref qA_buffer, .int A_firstPlace, .int A_forcedPlace, .int A_endPlace, .int A_wordsToFailure, .int A_opened])), (qA_ring, .inl (cA_ring, 65536, .inl A_ring)), (qA_buffer, .inl (cA_buffer, 200, .inl A_buffer))]) hD hS hA [0, 1, 2] rfl
  refine vx_callv (vx_runV (As := []) (rest := []) ⟨hx, hb, hml, hown, hbg⟩ (met_X0_requireOpen l hl9 dC dI qA qA_ring qA_buffer cA_ring cA_buffer s.heap.size A_ring A_buffer A_firstPlace A_forcedPlace A_endPlace A_wordsToFailure A_opened  _ _ hw) (cwV 0 hbg g_RX0_34 rfl rfl rfl (by decide +kernel) ⟨Nat.le_of_ble_eq_true rfl, Nat.le_of_ble_eq_true rfl⟩) ⟨pcX_A_b _ _ _ _ _ _ _ _ _ _ _ _ _ _ _ _, va_recv hK hP (ci := 0) (q0 := 0) rfl rfl, fun U hU hW => ⟨rfl, by rw [hU], by rw [hU]; exact hP, va_K.moved hW.alike hK, hD.weaken (fun _ _ _ _ => trivial), XW.go hXW0 hS hFc hU hW⟩⟩ rfl rfl hl.1 rfl (lv_room (Nat.le_of_ble_eq_true rfl)) dX0_forceAll_1 ⟨Nat.le_of_ble_eq_true rfl, Nat.le_of_ble_eq_true rfl⟩) hS (fun q _ h => hFc q h) hFc (fun q _ h => hFc q h) (fun E9 ce9 q9 u9 t9 H_1 locs ht hvm hpx hBX hz1 hk1 hS hce hcv hcl => ?_) (fun u_1 t_1 H_1 locs ht hvm hw hB hz1 hk1 hS => ?_)
  · obtain ⟨E8, A_ring_x1, A_buffer_x1, A_firstPlace_x1, A_forcedPlace_x1, A_endPlace_x1, A_wordsToFailure_x1, A_opened_x1⟩ := u9
    obtain ⟨rfl, hP1, hK1, hD1⟩ := hBX
    rw [ht] at hP1
    have hP : va_P (dC, dI) vwCl [(qA, .inr (0, [.ref qA_ring, .ref qA_buffer, .int A_firstPlace_x1, .int A_forcedPlace_x1, .int A_endPlace_x1, .int A_wordsToFailure_x1, .int A_opened_x1])), (qA_ring, .inl (cA_ring, 65536, .inl A_ring_x1)), (qA_buffer, .inl (cA_buffer, 200, .inl A_buffer_x1))] H_1 := hP1
    have hD : va_D A [(qA, .inr (0, [.ref qA_ring, .ref qA_buffer, .int A_firstPlace_x1, .int A_forcedPlace_x1, .int A_endPlace_x1, .int A_wordsToFailure_x1, .int A_opened_x1])), (qA_ring, .inl (cA_ring, 65536, .inl A_ring_x1)), (qA_buffer, .inl (cA_buffer, 200, .inl A_buffer_x1))] := hD1.weaken (fun _ _ _ h => hFc _ h)
    subst hQQ
    exact vx_out (fun x hx => (hEx x hx).elim) hlocks hce hcv hcl (fun t ht ha => ⟨(E9, (A_ring_x1, A_buffer_x1, A_firstPlace_x1, A_forcedPlace_x1, A_endPlace_x1, A_wordsToFailure_x1, A_opened_x1)), hpx, ⟨rfl, by rw [ht]; exact hP, va_K.moved ha hK, hD⟩, hS.F ht⟩) hS.2.2 (Nat.le_of_ble_eq_true rfl) (Nat.le_of_ble_eq_true rfl)
  · obtain ⟨A_ring_1, A_buffer_1, A_firstPlace_1, A_forcedPlace_1, A_endPlace_1, A_wordsToFailure_1, A_opened_1⟩ := u_1
    obtain ⟨hP1, hK1, hD1⟩ := hB
    rw [ht] at hP1
    try dsimp only at hw
    have hP : va_P (dC, dI) vwCl [(qA, .inr (0, [.ref qA_ring, .ref qA_buffer, .int A_firstPlace_1, .int A_forcedPlace_1, .int A_endPlace_1, .int A_wordsToFailure_1, .int A_opened_1])), (qA_ring, .inl (cA_ring, 65536, .inl A_ring_1)), (qA_buffer, .inl (cA_buffer, 200, .inl A_buffer_1))] H_1 := hP1
    have hD : va_D A [(qA, .inr (0, [.ref qA_ring, .ref qA_buffer, .int A_firstPlace_1, .int A_forcedPlace_1, .int A_endPlace_1, .int A_wordsToFailure_1, .int A_opened_1])), (qA_ring, .inl (cA_ring, 65536, .inl A_ring_1)), (qA_buffer, .inl (cA_buffer, 200, .inl A_buffer_1))] := hD1.weaken (fun _ _ _ h => hFc _ h)
    refine W.widen (k := 1) (n := 6) (Nat.le_of_ble_eq_true rfl) (Nat.le_of_ble_eq_true rfl) ?_
    refine lv_aload_n hx hb dX0_forceAll_4 rfl (lv_at hl 0 rfl) ?_
    refine lv_aload_n hx hb dX0_forceAll_5 rfl (lv_at hl 0 rfl) ?_
    refine va_get (D := (dC, dI)) (ci := 0) (v := .int A_endPlace_1) (C := RX0) (T := TX0) (N := 7) hx hb hbg in_X0 hown hK hP 0 rfl rfl 4 (by decide) (hbg _ kw_12) (fun _ h9 => h9) rfl dX0_forceAll_6 ?_
    have hFc := va_free (wc := [(qA, .inr (0, [.ref qA_ring, .ref qA_buffer, .int A_firstPlace_1, .int A_forcedPlace_1, .int A_endPlace_1, .int A_wordsToFailure_1, .int A_opened_1])), (qA_ring, .inl (cA_ring, 65536, .inl A_ring_1)), (qA_buffer, .inl (cA_buffer, 200, .inl A_buffer_1))]) hD hS hA [0, 1, 2] rfl
    refine va_calli (va_runV (As := [.int A_endPlace_1]) (rest := []) ⟨hx, hb, hml, hown, hbg⟩ (met_X0_writeUpTo l dC dI qA qA_ring qA_buffer cA_ring cA_buffer H_1.size A_ring_1 A_buffer_1 A_firstPlace_1 A_forcedPlace_1 A_endPlace_1 A_wordsToFailure_1 A_opened_1 A_endPlace_1 _ hw) (cwV 1 hbg g_RX0_77 rfl rfl rfl (by decide +kernel) ⟨Nat.le_of_ble_eq_true rfl, Nat.le_of_ble_eq_true rfl⟩) ⟨pcW_A_b _ _ _ _ _ _ _ _ _ _ _ _ _ _ _ _, va_recv hK hP (ci := 0) (q0 := 0) rfl rfl, fun U hU hW => ⟨rfl, by rw [hU], by rw [hU]; exact hP, va_K.moved hW.alike hK, hD.weaken (fun _ _ _ _ => trivial)⟩⟩ rfl rfl hl.1 rfl (lv_room (Nat.le_of_ble_eq_true rfl)) dX0_forceAll_9 ⟨Nat.le_of_ble_eq_true rfl, Nat.le_of_ble_eq_true rfl⟩) hS (fun q _ h => hFc q h) hFc (fun r_2 u_2 t_2 H_2 locs ht hvm hw hB hz1 hk1 hS => ?_)
    obtain ⟨A_ring_2, A_buffer_2, A_firstPlace_2, A_forcedPlace_2, A_endPlace_2, A_wordsToFailure_2, A_opened_2⟩ := u_2
    obtain ⟨hP1, hK1, hD1⟩ := hB
    rw [ht] at hP1
    try dsimp only at hw
    have hP : va_P (dC, dI) vwCl [(qA, .inr (0, [.ref qA_ring, .ref qA_buffer, .int A_firstPlace_2, .int A_forcedPlace_2, .int A_endPlace_2, .int A_wordsToFailure_2, .int A_opened_2])), (qA_ring, .inl (cA_ring, 65536, .inl A_ring_2)), (qA_buffer, .inl (cA_buffer, 200, .inl A_buffer_2))] H_2 := hP1
    have hD : va_D A [(qA, .inr (0, [.ref qA_ring, .ref qA_buffer, .int A_firstPlace_2, .int A_forcedPlace_2, .int A_endPlace_2, .int A_wordsToFailure_2, .int A_opened_2])), (qA_ring, .inl (cA_ring, 65536, .inl A_ring_2)), (qA_buffer, .inl (cA_buffer, 200, .inl A_buffer_2))] := hD1.weaken (fun _ _ _ h => hFc _ h)
    subst hQQ
    refine W.widen (k := 1) (n := 6) (Nat.le_of_ble_eq_true rfl) (Nat.le_of_ble_eq_true rfl) ?_
    refine vx_ret ?_
    exact W.iret (v := r_2) hx hb hr (fun t ht hW => ⟨⟨r_2, (A_ring_2, A_buffer_2, A_firstPlace_2, A_forcedPlace_2, A_endPlace_2, A_wordsToFailure_2, A_opened_2), rfl, hw, by rw [ht]; exact hP, va_K.moved hW.alike hK, hD⟩, hS.F ht⟩) hS.2.2 dX0_forceAll_12
def wp_X0_giveBack (post : Int32 → St_A → Prop) (px : String → St_A → Prop) (x1 : Int32) (A_ring : Nat → Int32) (A_buffer : Nat → Int32) (A_firstPlace : Int32) (A_forcedPlace : Int32) (A_endPlace : Int32) (A_wordsToFailure : Int32) (A_opened : Int32) : Prop :=
  wp_X0_requireOpen (fun u_1 => match u_1 with | (A_ring_1, A_buffer_1, A_firstPlace_1, A_forcedPlace_1, A_endPlace_1, A_wordsToFailure_1, A_opened_1) => wp_X0_requireRecord (fun u_2 => match u_2 with | (A_ring_2, A_buffer_2, A_firstPlace_2, A_forcedPlace_2, A_endPlace_2, A_wordsToFailure_2, A_opened_2) => wp_X0_behind (fun r_3 => ((r_3 ≤ A_forcedPlace_2 → post (x1 - A_firstPlace_2) (A_ring_2, A_buffer_2, x1, A_forcedPlace_2, A_endPlace_2, A_wordsToFailure_2, A_opened_2)) ∧ (¬ r_3 ≤ A_forcedPlace_2 → px "java/lang/IllegalStateException" (A_ring_2, A_buffer_2, A_firstPlace_2, A_forcedPlace_2, A_endPlace_2, A_wordsToFailure_2, A_opened_2)))) x1 A_ring_2 A_buffer_2 A_firstPlace_2 A_forcedPlace_2 A_endPlace_2 A_wordsToFailure_2 A_opened_2) px x1 A_ring_1 A_buffer_1 A_firstPlace_1 A_forcedPlace_1 A_endPlace_1 A_wordsToFailure_1 A_opened_1) px A_ring A_buffer A_firstPlace A_forcedPlace A_endPlace A_wordsToFailure A_opened
set_option maxHeartbeats 4000000 in
set_option maxRecDepth 100000 in
theorem met_X0_giveBack (l : Launch) (hl9 : l.stackTraces = false) (dC : Nat → ClassId) (dI : Nat → Nat → Nat) (qA qA_ring qA_buffer : Nat) (cA_ring cA_buffer : ClassId) (sz : Nat) (A_ring : Nat → Int32) (A_buffer : Nat → Int32) (A_firstPlace : Int32) (A_forcedPlace : Int32) (A_endPlace : Int32) (A_wordsToFailure : Int32) (A_opened : Int32) (x1 : Int32) (post : Int32 → St_A → Prop) (px : String → St_A → Prop) (hw : wp_X0_giveBack post px x1 A_ring A_buffer A_firstPlace A_forcedPlace A_endPlace A_wordsToFailure A_opened) :
    vx_Met l yX0_giveBack wsX0_giveBack ({ frames := 7, cells := 3, slots := 18, locals := 117 } : Room) (pcX_A dC dI qA qA_ring qA_buffer cA_ring cA_buffer sz A_ring A_buffer A_firstPlace A_forcedPlace A_endPlace A_wordsToFailure A_opened [.ref qA, .int x1]) (va_Qi post (at_A dC dI (va_A [(qA, .inr (0, [.ref qA_ring, .ref qA_buffer, .int A_firstPlace, .int A_forcedPlace, .int A_endPlace, .int A_wordsToFailure, .int A_opened])), (qA_ring, .inl (cA_ring, 65536, .inl A_ring)), (qA_buffer, .inl (cA_buffer, 200, .inl A_buffer))] sz) qA qA_ring qA_buffer cA_ring cA_buffer) (va_A [(qA, .inr (0, [.ref qA_ring, .ref qA_buffer, .int A_firstPlace, .int A_forcedPlace, .int A_endPlace, .int A_wordsToFailure, .int A_opened])), (qA_ring, .inl (cA_ring, 65536, .inl A_ring)), (qA_buffer, .inl (cA_buffer, 200, .inl A_buffer))] sz)) (vx_X (fun u => px u.1 u.2) (atx_A dC dI (va_A [(qA, .inr (0, [.ref qA_ring, .ref qA_buffer, .int A_firstPlace, .int A_forcedPlace, .int A_endPlace, .int A_wordsToFailure, .int A_opened])), (qA_ring, .inl (cA_ring, 65536, .inl A_ring)), (qA_buffer, .inl (cA_buffer, 200, .inl A_buffer))] sz) qA qA_ring qA_buffer cA_ring cA_buffer) (va_A [(qA, .inr (0, [.ref qA_ring, .ref qA_buffer, .int A_firstPlace, .int A_forcedPlace, .int A_endPlace, .int A_wordsToFailure, .int A_opened])), (qA_ring, .inl (cA_ring, 65536, .inl A_ring)), (qA_buffer, .inl (cA_buffer, 200, .inl A_buffer))] sz)) 3 18 (va_A [(qA, .inr (0, [.ref qA_ring, .ref qA_buffer, .int A_firstPlace, .int A_forcedPlace, .int A_endPlace, .int A_wordsToFailure, .int A_opened])), (qA_ring, .inl (cA_ring, 65536, .inl A_ring)), (qA_buffer, .inl (cA_buffer, 200, .inl A_buffer))] sz) := by
  refine vx_ofW (cc := cX0_giveBack) (maxL := 3) (ret := (some .int)) (by decide) rfl ?_
  intro p e s m args below meth c s₁ B hml hEx hv
  obtain ⟨hav, hsz, hP, hK, hD0, hXW0⟩ := hv
  have hx := B.exec
  have hb := B.bytes
  have hr := B.returns
  have hts := atoms_spec (ws := wsX0_giveBack) B.pre
  have hbg : ∀ w ∈ bigW, w.before args s = true := fun w h => hts w (List.mem_cons_of_mem _ h)
  have hown : s.vm.findClass RX0 = some m.cls := findClass_of_methodNamed B.named
  have hlocks := B.notSynchronized
  subst hsz
  have hD := hD0.self (sz := s.heap.size)
  generalize hAe : va_A [(qA, .inr (0, [.ref qA_ring, .ref qA_buffer, .int A_firstPlace, .int A_forcedPlace, .int A_endPlace, .int A_wordsToFailure, .int A_opened])), (qA_ring, .inl (cA_ring, 65536, .inl A_ring)), (qA_buffer, .inl (cA_buffer, 200, .inl A_buffer))] s.heap.size = A at hD hXW0 ⊢
  have hA : ∀ q : Nat, s.heap.size ≤ q → A q := fun q h => by rw [← hAe]; exact Or.inr h
  have hS : va_S A s.heap s.heap [] := va_S.rf
  have hP : va_P (dC, dI) vwCl [(qA, .inr (0, [.ref qA_ring, .ref qA_buffer, .int A_firstPlace, .int A_forcedPlace, .int A_endPlace, .int A_wordsToFailure, .int A_opened])), (qA_ring, .inl (cA_ring, 65536, .inl A_ring)), (qA_buffer, .inl (cA_buffer, 200, .inl A_buffer))] s.heap := hP
  generalize hQQ : vx_MQ below (va_Qi post (at_A dC dI A qA qA_ring qA_buffer cA_ring cA_buffer) A) (vx_X (fun u => px u.1 u.2) (atx_A dC dI A qA qA_ring qA_buffer cA_ring cA_buffer) A) args s 3 18 A = QQ
  have hl := lv_entry ([.ref qA, .int x1]) (n := 3) (Nat.le_of_ble_eq_true rfl)
  rw [show entryFrame m args 3 = entryFrame m ([.ref qA, .int x1] : List Value).toArray 3 by rw [hav], lg_entry_eq]
  generalize (lg_sl ([.ref qA, .int x1]) ++ List.replicate (3 - (lg_sl ([.ref qA, .int x1])).length) Slot.unset).toArray = ls at hl ⊢
  have hl : lv_has ls 3 [(0, .ref qA), (1, .int x1)] := hl
  unfold wp_X0_giveBack at hw
  refine lv_aload_n hx hb dX0_giveBack_0 rfl (lv_at hl 0 rfl) ?_
  have hFc := va_free (wc := [(qA, .inr (0, [.ref qA_ring, .ref qA_buffer, .int A_firstPlace, .int A_forcedPlace, .int A_endPlace, .int A_wordsToFailure, .int A_opened])), (qA_ring, .inl (cA_ring, 65536, .inl A_ring)), (qA_buffer, .inl (cA_buffer, 200, .inl A_buffer))]) hD hS hA [0, 1, 2] rfl
  refine vx_callv (vx_runV (As := []) (rest := []) ⟨hx, hb, hml, hown, hbg⟩ (met_X0_requireOpen l hl9 dC dI qA qA_ring qA_buffer cA_ring cA_buffer s.heap.size A_ring A_buffer A_firstPlace A_forcedPlace A_endPlace A_wordsToFailure A_opened  _ _ hw) (cwV 0 hbg g_RX0_34 rfl rfl rfl (by decide +kernel) ⟨Nat.le_of_ble_eq_true rfl, Nat.le_of_ble_eq_true rfl⟩) ⟨pcX_A_b _ _ _ _ _ _ _ _ _ _ _ _ _ _ _ _, va_recv hK hP (ci := 0) (q0 := 0) rfl rfl, fun U hU hW => ⟨rfl, by rw [hU], by rw [hU]; exact hP, va_K.moved hW.alike hK, hD.weaken (fun _ _ _ _ => trivial), XW.go hXW0 hS hFc hU hW⟩⟩ rfl rfl hl.1 rfl (lv_room (Nat.le_of_ble_eq_true rfl)) dX0_giveBack_1 ⟨Nat.le_of_ble_eq_true rfl, Nat.le_of_ble_eq_true rfl⟩) hS (fun q _ h => hFc q h) hFc (fun q _ h => hFc q h) (fun E9 ce9 q9 u9 t9 H_1 locs ht hvm hpx hBX hz1 hk1 hS hce hcv hcl => ?_) (fun u_1 t_1 H_1 locs ht hvm hw hB hz1 hk1 hS => ?_)
  · obtain ⟨E8, A_ring_x1, A_buffer_x1, A_firstPlace_x1, A_forcedPlace_x1, A_endPlace_x1, A_wordsToFailure_x1, A_opened_x1⟩ := u9
    obtain ⟨rfl, hP1, hK1, hD1⟩ := hBX
    rw [ht] at hP1
    have hP : va_P (dC, dI) vwCl [(qA, .inr (0, [.ref qA_ring, .ref qA_buffer, .int A_firstPlace_x1, .int A_forcedPlace_x1, .int A_endPlace_x1, .int A_wordsToFailure_x1, .int A_opened_x1])), (qA_ring, .inl (cA_ring, 65536, .inl A_ring_x1)), (qA_buffer, .inl (cA_buffer, 200, .inl A_buffer_x1))] H_1 := hP1
    have hD : va_D A [(qA, .inr (0, [.ref qA_ring, .ref qA_buffer, .int A_firstPlace_x1, .int A_forcedPlace_x1, .int A_endPlace_x1, .int A_wordsToFailure_x1, .int A_opened_x1])), (qA_ring, .inl (cA_ring, 65536, .inl A_ring_x1)), (qA_buffer, .inl (cA_buffer, 200, .inl A_buffer_x1))] := hD1.weaken (fun _ _ _ h => hFc _ h)
    subst hQQ
    exact vx_out (fun x hx => (hEx x hx).elim) hlocks hce hcv hcl (fun t ht ha => ⟨(E9, (A_ring_x1, A_buffer_x1, A_firstPlace_x1, A_forcedPlace_x1, A_endPlace_x1, A_wordsToFailure_x1, A_opened_x1)), hpx, ⟨rfl, by rw [ht]; exact hP, va_K.moved ha hK, hD⟩, hS.F ht⟩) hS.2.2 (Nat.le_of_ble_eq_true rfl) (Nat.le_of_ble_eq_true rfl)
  · obtain ⟨A_ring_1, A_buffer_1, A_firstPlace_1, A_forcedPlace_1, A_endPlace_1, A_wordsToFailure_1, A_opened_1⟩ := u_1
    obtain ⟨hP1, hK1, hD1⟩ := hB
    rw [ht] at hP1
    try dsimp only at hw
    have hP : va_P (dC, dI) vwCl [(qA, .inr (0, [.ref qA_ring, .ref qA_buffer, .int A_firstPlace_1, .int A_forcedPlace_1, .int A_endPlace_1, .int A_wordsToFailure_1, .int A_opened_1])), (qA_ring, .inl (cA_ring, 65536, .inl A_ring_1)), (qA_buffer, .inl (cA_buffer, 200, .inl A_buffer_1))] H_1 := hP1
    have hD : va_D A [(qA, .inr (0, [.ref qA_ring, .ref qA_buffer, .int A_firstPlace_1, .int A_forcedPlace_1, .int A_endPlace_1, .int A_wordsToFailure_1, .int A_opened_1])), (qA_ring, .inl (cA_ring, 65536, .inl A_ring_1)), (qA_buffer, .inl (cA_buffer, 200, .inl A_buffer_1))] := hD1.weaken (fun _ _ _ h => hFc _ h)
    refine W.widen (k := 1) (n := 6) (Nat.le_of_ble_eq_true rfl) (Nat.le_of_ble_eq_true rfl) ?_
    refine lv_aload_n hx hb dX0_giveBack_4 rfl (lv_at hl 0 rfl) ?_
    refine lv_iload_n hx hb dX0_giveBack_5 rfl (lv_at hl 1 rfl) ?_
    have hFc := va_free (wc := [(qA, .inr (0, [.ref qA_ring, .ref qA_buffer, .int A_firstPlace_1, .int A_forcedPlace_1, .int A_endPlace_1, .int A_wordsToFailure_1, .int A_opened_1])), (qA_ring, .inl (cA_ring, 65536, .inl A_ring_1)), (qA_buffer, .inl (cA_buffer, 200, .inl A_buffer_1))]) hD hS hA [0, 1, 2] rfl
    refine vx_callv (vx_runV (As := [.int x1]) (rest := []) ⟨hx, hb, hml, hown, hbg⟩ (met_X0_requireRecord l hl9 dC dI qA qA_ring qA_buffer cA_ring cA_buffer H_1.size A_ring_1 A_buffer_1 A_firstPlace_1 A_forcedPlace_1 A_endPlace_1 A_wordsToFailure_1 A_opened_1 x1 _ _ hw) (cwV 1 hbg g_RX0_71 rfl rfl rfl (by decide +kernel) ⟨Nat.le_of_ble_eq_true rfl, Nat.le_of_ble_eq_true rfl⟩) ⟨pcX_A_b _ _ _ _ _ _ _ _ _ _ _ _ _ _ _ _, va_recv hK hP (ci := 0) (q0 := 0) rfl rfl, fun U hU hW => ⟨rfl, by rw [hU], by rw [hU]; exact hP, va_K.moved hW.alike hK, hD.weaken (fun _ _ _ _ => trivial), XW.go hXW0 hS hFc hU hW⟩⟩ rfl rfl hl.1 rfl (lv_room (Nat.le_of_ble_eq_true rfl)) dX0_giveBack_6 ⟨Nat.le_of_ble_eq_true rfl, Nat.le_of_ble_eq_true rfl⟩) hS (fun q _ h => hFc q h) hFc (fun q _ h => hFc q h) (fun E9 ce9 q9 u9 t9 H_2 locs ht hvm hpx hBX hz1 hk1 hS hce hcv hcl => ?_) (fun u_2 t_2 H_2 locs ht hvm hw hB hz1 hk1 hS => ?_)
    · obtain ⟨E8, A_ring_x2, A_buffer_x2, A_firstPlace_x2, A_forcedPlace_x2, A_endPlace_x2, A_wordsToFailure_x2, A_opened_x2⟩ := u9
      obtain ⟨rfl, hP1, hK1, hD1⟩ := hBX
      rw [ht] at hP1
      have hP : va_P (dC, dI) vwCl [(qA, .inr (0, [.ref qA_ring, .ref qA_buffer, .int A_firstPlace_x2, .int A_forcedPlace_x2, .int A_endPlace_x2, .int A_wordsToFailure_x2, .int A_opened_x2])), (qA_ring, .inl (cA_ring, 65536, .inl A_ring_x2)), (qA_buffer, .inl (cA_buffer, 200, .inl A_buffer_x2))] H_2 := hP1
      have hD : va_D A [(qA, .inr (0, [.ref qA_ring, .ref qA_buffer, .int A_firstPlace_x2, .int A_forcedPlace_x2, .int A_endPlace_x2, .int A_wordsToFailure_x2, .int A_opened_x2])), (qA_ring, .inl (cA_ring, 65536, .inl A_ring_x2)), (qA_buffer, .inl (cA_buffer, 200, .inl A_buffer_x2))] := hD1.weaken (fun _ _ _ h => hFc _ h)
      subst hQQ
      exact vx_out (fun x hx => (hEx x hx).elim) hlocks hce hcv hcl (fun t ht ha => ⟨(E9, (A_ring_x2, A_buffer_x2, A_firstPlace_x2, A_forcedPlace_x2, A_endPlace_x2, A_wordsToFailure_x2, A_opened_x2)), hpx, ⟨rfl, by rw [ht]; exact hP, va_K.moved ha hK, hD⟩, hS.F ht⟩) hS.2.2 (Nat.le_of_ble_eq_true rfl) (Nat.le_of_ble_eq_true rfl)
    · obtain ⟨A_ring_2, A_buffer_2, A_firstPlace_2, A_forcedPlace_2, A_endPlace_2, A_wordsToFailure_2, A_opened_2⟩ := u_2
      obtain ⟨hP1, hK1, hD1⟩ := hB
      rw [ht] at hP1
      try dsimp only at hw
      have hP : va_P (dC, dI) vwCl [(qA, .inr (0, [.ref qA_ring, .ref qA_buffer, .int A_firstPlace_2, .int A_forcedPlace_2, .int A_endPlace_2, .int A_wordsToFailure_2, .int A_opened_2])), (qA_ring, .inl (cA_ring, 65536, .inl A_ring_2)), (qA_buffer, .inl (cA_buffer, 200, .inl A_buffer_2))] H_2 := hP1
      have hD : va_D A [(qA, .inr (0, [.ref qA_ring, .ref qA_buffer, .int A_firstPlace_2, .int A_forcedPlace_2, .int A_endPlace_2, .int A_wordsToFailure_2, .int A_opened_2])), (qA_ring, .inl (cA_ring, 65536, .inl A_ring_2)), (qA_buffer, .inl (cA_buffer, 200, .inl A_buffer_2))] := hD1.weaken (fun _ _ _ h => hFc _ h)
      refine W.widen (k := 2) (n := 12) (Nat.le_of_ble_eq_true rfl) (Nat.le_of_ble_eq_true rfl) ?_
      refine lv_aload_n hx hb dX0_giveBack_9 rfl (lv_at hl 0 rfl) ?_
      refine lv_iload_n hx hb dX0_giveBack_10 rfl (lv_at hl 1 rfl) ?_
      refine vp_callSi (W.runV (As := [.int x1]) (rest := []) ⟨hx, hb, hml, hown, hbg⟩ (met_X0_behind l dC dI qA qA_ring qA_buffer cA_ring cA_buffer A_ring_2 A_buffer_2 A_firstPlace_2 A_forcedPlace_2 A_endPlace_2 A_wordsToFailure_2 A_opened_2 x1 _ hw) (cwV 1 hbg g_RX0_74 rfl rfl rfl (by decide +kernel) ⟨Nat.le_of_ble_eq_true rfl, Nat.le_of_ble_eq_true rfl⟩) ⟨pcR_A_b _ _ _ _ _ _ _ _ _ _ _ _ _ _ _ , va_recv hK hP (ci := 0) (q0 := 0) rfl rfl, fun U hU hW => ⟨rfl, by rw [hU]; exact hP, va_K.moved hW.alike hK⟩⟩ rfl rfl hl.1 rfl (lv_room (Nat.le_of_ble_eq_true rfl)) dX0_giveBack_11 ⟨Nat.le_of_ble_eq_true rfl, Nat.le_of_ble_eq_true rfl⟩) (fun r_3 hw => ?_)
      try dsimp only at hw
      refine lv_aload_n hx hb dX0_giveBack_14 rfl (lv_at hl 0 rfl) ?_
      refine va_get (D := (dC, dI)) (ci := 0) (v := .int A_forcedPlace_2) (C := RX0) (T := TX0) (N := 7) hx hb hbg in_X0 hown hK hP 0 rfl rfl 3 (by decide) (hbg _ kw_51) (fun _ h9 => h9) rfl dX0_giveBack_15 ?_
      refine lv_icmp_le (tgt := 31) hx hb dX0_giveBack_18 (by decide) (fun c9 => ?_) (fun c9 => ?_)
      · have hw := hw.1 c9
        refine lv_iload_n hx hb dX0_giveBack_31 rfl (lv_at hl 1 rfl) ?_
        refine lv_aload_n hx hb dX0_giveBack_32 rfl (lv_at hl 0 rfl) ?_
        refine va_get (D := (dC, dI)) (ci := 0) (v := .int A_firstPlace_2) (C := RX0) (T := TX0) (N := 7) hx hb hbg in_X0 hown hK hP 0 rfl rfl 2 (by decide) (hbg _ kw_2) (fun _ h9 => h9) rfl dX0_giveBack_33 ?_
        refine lv_isub hx hb dX0_giveBack_36 ?_
        refine lv_istore_n (lv' := [(2, .int (x1 - A_firstPlace_2)), (0, .ref qA), (1, .int x1)]) hx hb dX0_giveBack_37 rfl hl (by decide) rfl (fun ls hl => ?_)
        refine lv_aload_n hx hb dX0_giveBack_38 rfl (lv_at hl 1 rfl) ?_
        refine lv_iload_n hx hb dX0_giveBack_39 rfl (lv_at hl 2 rfl) ?_
        refine va_put (D := (dC, dI)) (ci := 0) (v := .int x1) (ty := .int) (C := RX0) (T := TX0) (N := 7) hx hb hbg in_X0 tyX0 tyX0_ok nmX0 hown hK hP hD hS 0 rfl rfl 2 (by decide) (hbg _ kw_2) (fun _ h9 => h9) rfl (by decide +kernel) rfl rfl (Nat.le_of_ble_eq_true rfl) dX0_giveBack_40 (fun H_4 locs hP hD hS => ?_)
        have hP : va_P (dC, dI) vwCl [(qA, .inr (0, [.ref qA_ring, .ref qA_buffer, .int x1, .int A_forcedPlace_2, .int A_endPlace_2, .int A_wordsToFailure_2, .int A_opened_2])), (qA_ring, .inl (cA_ring, 65536, .inl A_ring_2)), (qA_buffer, .inl (cA_buffer, 200, .inl A_buffer_2))] H_4 := hP
        have hD : va_D A [(qA, .inr (0, [.ref qA_ring, .ref qA_buffer, .int x1, .int A_forcedPlace_2, .int A_endPlace_2, .int A_wordsToFailure_2, .int A_opened_2])), (qA_ring, .inl (cA_ring, 65536, .inl A_ring_2)), (qA_buffer, .inl (cA_buffer, 200, .inl A_buffer_2))] := hD
        refine lv_iload_n hx hb dX0_giveBack_43 rfl (lv_at hl 0 rfl) ?_
        subst hQQ
        refine W.widen (k := 3) (n := 18) (Nat.le_of_ble_eq_true rfl) (Nat.le_of_ble_eq_true rfl) ?_
        refine vx_ret ?_
        exact W.iret (v := x1 - A_firstPlace_2) hx hb hr (fun t ht hW => ⟨⟨x1 - A_firstPlace_2, (A_ring_2, A_buffer_2, x1, A_forcedPlace_2, A_endPlace_2, A_wordsToFailure_2, A_opened_2), rfl, hw, by rw [ht]; exact hP, va_K.moved hW.alike hK, hD⟩, hS.F ht⟩) hS.2.2 dX0_giveBack_44
      · have hw := hw.2 c9
        subst hQQ
        obtain ⟨sa, hsa⟩ := hXW0.2.2.1 (RX0, 82, "the record is not wholly forced") (by decide +kernel)
        exact vx_throwS (own := RX0) (cls := "java/lang/IllegalStateException") (names := ["java/lang/RuntimeException", "java/lang/Exception"]) hx hb hl9 hown (by decide +kernel) (by decide +kernel) (hbg _ kw_67) (hbg _ kw_68) hsa (vx_hat (L := vx_atS RX0 84 "java/lang/IllegalStateException" ["java/lang/RuntimeException", "java/lang/Exception"]) (B := [.castable "java/lang/IllegalStateException" "java/lang/IllegalStateException", .declares ⟨"java/lang/RuntimeException", "<init>", "(Ljava/lang/String;)V"⟩, .declares ⟨"java/lang/Exception", "<init>", "(Ljava/lang/String;)V"⟩, .declares ⟨"java/lang/Throwable", "<init>", "(Ljava/lang/String;)V"⟩]) (fun w hw => hbg w (xa_RX0_84 w hw)) (by decide +kernel) (vx_c (va_Nw.use rfl (hXW0.1 "java/lang/IllegalStateException" (by decide))) (vx_c (va_Nw.use rfl (hXW0.2.1 "java/lang/RuntimeException" (by decide))) (vx_c (va_Nw.use rfl (hXW0.2.1 "java/lang/Exception" (by decide))) (vx_c (va_Nw.use rfl (hXW0.2.1 "java/lang/Throwable" (by decide))) (vx_n)))))) (by decide +kernel) hXW0.2.2.2.2.1 hXW0.2.2.2.2.2 hS (hl.1.trans hml.symm) dX0_giveBack_21 dX0_giveBack_24 dX0_giveBack_25 dX0_giveBack_27 dX0_giveBack_30 (fun x hx => (hEx x hx).elim) (Nat.le_of_ble_eq_true rfl) (Nat.le_of_ble_eq_true rfl) (Nat.le_of_ble_eq_true rfl) (Nat.le_of_ble_eq_true rfl) hlocks (fun t ha hsz hk => ⟨("java/lang/IllegalStateException", (A_ring_2, A_buffer_2, A_firstPlace_2, A_forcedPlace_2, A_endPlace_2, A_wordsToFailure_2, A_opened_2)), hw, ⟨rfl, hP.kept (fun k q hq => hk q.1 (hP k q hq).lt), va_K.moved ha hK, hD⟩, Nat.le_trans hS.1 hsz, fun q h1 h2 => (hk q (Nat.lt_of_lt_of_le h1 hS.1)).trans (hS.2.1 q h1 h2)⟩) hS.2.2 (Nat.le_of_ble_eq_true rfl) (Nat.le_of_ble_eq_true rfl)
def wp_X0_first (post : Int32 → St_A → Prop) (px : String → St_A → Prop) (A_ring : Nat → Int32) (A_buffer : Nat → Int32) (A_firstPlace : Int32) (A_forcedPlace : Int32) (A_endPlace : Int32) (A_wordsToFailure : Int32) (A_opened : Int32) : Prop :=
  wp_X0_requireOpen (fun u_1 => match u_1 with | (A_ring_1, A_buffer_1, A_firstPlace_1, A_forcedPlace_1, A_endPlace_1, A_wordsToFailure_1, A_opened_1) => wp_X0_firstRecordFrom (fun r_2 => post r_2 (A_ring_1, A_buffer_1, A_firstPlace_1, A_forcedPlace_1, A_endPlace_1, A_wordsToFailure_1, A_opened_1)) A_firstPlace_1 A_ring_1 A_buffer_1 A_firstPlace_1 A_forcedPlace_1 A_endPlace_1 A_wordsToFailure_1 A_opened_1) px A_ring A_buffer A_firstPlace A_forcedPlace A_endPlace A_wordsToFailure A_opened
set_option maxHeartbeats 4000000 in
set_option maxRecDepth 100000 in
theorem met_X0_first (l : Launch) (hl9 : l.stackTraces = false) (dC : Nat → ClassId) (dI : Nat → Nat → Nat) (qA qA_ring qA_buffer : Nat) (cA_ring cA_buffer : ClassId) (sz : Nat) (A_ring : Nat → Int32) (A_buffer : Nat → Int32) (A_firstPlace : Int32) (A_forcedPlace : Int32) (A_endPlace : Int32) (A_wordsToFailure : Int32) (A_opened : Int32) (post : Int32 → St_A → Prop) (px : String → St_A → Prop) (hw : wp_X0_first post px A_ring A_buffer A_firstPlace A_forcedPlace A_endPlace A_wordsToFailure A_opened) :
    vx_Met l yX0_first wsX0_first ({ frames := 7, cells := 1, slots := 6, locals := 116 } : Room) (pcX_A dC dI qA qA_ring qA_buffer cA_ring cA_buffer sz A_ring A_buffer A_firstPlace A_forcedPlace A_endPlace A_wordsToFailure A_opened [.ref qA]) (va_Qi post (at_A dC dI (va_A [(qA, .inr (0, [.ref qA_ring, .ref qA_buffer, .int A_firstPlace, .int A_forcedPlace, .int A_endPlace, .int A_wordsToFailure, .int A_opened])), (qA_ring, .inl (cA_ring, 65536, .inl A_ring)), (qA_buffer, .inl (cA_buffer, 200, .inl A_buffer))] sz) qA qA_ring qA_buffer cA_ring cA_buffer) (va_A [(qA, .inr (0, [.ref qA_ring, .ref qA_buffer, .int A_firstPlace, .int A_forcedPlace, .int A_endPlace, .int A_wordsToFailure, .int A_opened])), (qA_ring, .inl (cA_ring, 65536, .inl A_ring)), (qA_buffer, .inl (cA_buffer, 200, .inl A_buffer))] sz)) (vx_X (fun u => px u.1 u.2) (atx_A dC dI (va_A [(qA, .inr (0, [.ref qA_ring, .ref qA_buffer, .int A_firstPlace, .int A_forcedPlace, .int A_endPlace, .int A_wordsToFailure, .int A_opened])), (qA_ring, .inl (cA_ring, 65536, .inl A_ring)), (qA_buffer, .inl (cA_buffer, 200, .inl A_buffer))] sz) qA qA_ring qA_buffer cA_ring cA_buffer) (va_A [(qA, .inr (0, [.ref qA_ring, .ref qA_buffer, .int A_firstPlace, .int A_forcedPlace, .int A_endPlace, .int A_wordsToFailure, .int A_opened])), (qA_ring, .inl (cA_ring, 65536, .inl A_ring)), (qA_buffer, .inl (cA_buffer, 200, .inl A_buffer))] sz)) 1 6 (va_A [(qA, .inr (0, [.ref qA_ring, .ref qA_buffer, .int A_firstPlace, .int A_forcedPlace, .int A_endPlace, .int A_wordsToFailure, .int A_opened])), (qA_ring, .inl (cA_ring, 65536, .inl A_ring)), (qA_buffer, .inl (cA_buffer, 200, .inl A_buffer))] sz) := by
  refine vx_ofW (cc := cX0_first) (maxL := 1) (ret := (some .int)) (by decide) rfl ?_
  intro p e s m args below meth c s₁ B hml hEx hv
  obtain ⟨hav, hsz, hP, hK, hD0, hXW0⟩ := hv
  have hx := B.exec
  have hb := B.bytes
  have hr := B.returns
  have hts := atoms_spec (ws := wsX0_first) B.pre
  have hbg : ∀ w ∈ bigW, w.before args s = true := fun w h => hts w (List.mem_cons_of_mem _ h)
  have hown : s.vm.findClass RX0 = some m.cls := findClass_of_methodNamed B.named
  have hlocks := B.notSynchronized
  subst hsz
  have hD := hD0.self (sz := s.heap.size)
  generalize hAe : va_A [(qA, .inr (0, [.ref qA_ring, .ref qA_buffer, .int A_firstPlace, .int A_forcedPlace, .int A_endPlace, .int A_wordsToFailure, .int A_opened])), (qA_ring, .inl (cA_ring, 65536, .inl A_ring)), (qA_buffer, .inl (cA_buffer, 200, .inl A_buffer))] s.heap.size = A at hD hXW0 ⊢
  have hA : ∀ q : Nat, s.heap.size ≤ q → A q := fun q h => by rw [← hAe]; exact Or.inr h
  have hS : va_S A s.heap s.heap [] := va_S.rf
  have hP : va_P (dC, dI) vwCl [(qA, .inr (0, [.ref qA_ring, .ref qA_buffer, .int A_firstPlace, .int A_forcedPlace, .int A_endPlace, .int A_wordsToFailure, .int A_opened])), (qA_ring, .inl (cA_ring, 65536, .inl A_ring)), (qA_buffer, .inl (cA_buffer, 200, .inl A_buffer))] s.heap := hP
  generalize hQQ : vx_MQ below (va_Qi post (at_A dC dI A qA qA_ring qA_buffer cA_ring cA_buffer) A) (vx_X (fun u => px u.1 u.2) (atx_A dC dI A qA qA_ring qA_buffer cA_ring cA_buffer) A) args s 1 6 A = QQ
  have hl := lv_entry ([.ref qA]) (n := 1) (Nat.le_of_ble_eq_true rfl)
  rw [show entryFrame m args 1 = entryFrame m ([.ref qA] : List Value).toArray 1 by rw [hav], lg_entry_eq]
  generalize (lg_sl ([.ref qA]) ++ List.replicate (1 - (lg_sl ([.ref qA])).length) Slot.unset).toArray = ls at hl ⊢
  have hl : lv_has ls 1 [(0, .ref qA)] := hl
  unfold wp_X0_first at hw
  refine lv_aload_n hx hb dX0_first_0 rfl (lv_at hl 0 rfl) ?_
  have hFc := va_free (wc := [(qA, .inr (0, [.ref qA_ring, .ref qA_buffer, .int A_firstPlace, .int A_forcedPlace, .int A_endPlace, .int A_wordsToFailure, .int A_opened])), (qA_ring, .inl (cA_ring, 65536, .inl A_ring)), (qA_buffer, .inl (cA_buffer, 200, .inl A_buffer))]) hD hS hA [0, 1, 2] rfl
  refine vx_callv (vx_runV (As := []) (rest := []) ⟨hx, hb, hml, hown, hbg⟩ (met_X0_requireOpen l hl9 dC dI qA qA_ring qA_buffer cA_ring cA_buffer s.heap.size A_ring A_buffer A_firstPlace A_forcedPlace A_endPlace A_wordsToFailure A_opened  _ _ hw) (cwV 0 hbg g_RX0_34 rfl rfl rfl (by decide +kernel) ⟨Nat.le_of_ble_eq_true rfl, Nat.le_of_ble_eq_true rfl⟩) ⟨pcX_A_b _ _ _ _ _ _ _ _ _ _ _ _ _ _ _ _, va_recv hK hP (ci := 0) (q0 := 0) rfl rfl, fun U hU hW => ⟨rfl, by rw [hU], by rw [hU]; exact hP, va_K.moved hW.alike hK, hD.weaken (fun _ _ _ _ => trivial), XW.go hXW0 hS hFc hU hW⟩⟩ rfl rfl hl.1 rfl (lv_room (Nat.le_of_ble_eq_true rfl)) dX0_first_1 ⟨Nat.le_of_ble_eq_true rfl, Nat.le_of_ble_eq_true rfl⟩) hS (fun q _ h => hFc q h) hFc (fun q _ h => hFc q h) (fun E9 ce9 q9 u9 t9 H_1 locs ht hvm hpx hBX hz1 hk1 hS hce hcv hcl => ?_) (fun u_1 t_1 H_1 locs ht hvm hw hB hz1 hk1 hS => ?_)
  · obtain ⟨E8, A_ring_x1, A_buffer_x1, A_firstPlace_x1, A_forcedPlace_x1, A_endPlace_x1, A_wordsToFailure_x1, A_opened_x1⟩ := u9
    obtain ⟨rfl, hP1, hK1, hD1⟩ := hBX
    rw [ht] at hP1
    have hP : va_P (dC, dI) vwCl [(qA, .inr (0, [.ref qA_ring, .ref qA_buffer, .int A_firstPlace_x1, .int A_forcedPlace_x1, .int A_endPlace_x1, .int A_wordsToFailure_x1, .int A_opened_x1])), (qA_ring, .inl (cA_ring, 65536, .inl A_ring_x1)), (qA_buffer, .inl (cA_buffer, 200, .inl A_buffer_x1))] H_1 := hP1
    have hD : va_D A [(qA, .inr (0, [.ref qA_ring, .ref qA_buffer, .int A_firstPlace_x1, .int A_forcedPlace_x1, .int A_endPlace_x1, .int A_wordsToFailure_x1, .int A_opened_x1])), (qA_ring, .inl (cA_ring, 65536, .inl A_ring_x1)), (qA_buffer, .inl (cA_buffer, 200, .inl A_buffer_x1))] := hD1.weaken (fun _ _ _ h => hFc _ h)
    subst hQQ
    exact vx_out (fun x hx => (hEx x hx).elim) hlocks hce hcv hcl (fun t ht ha => ⟨(E9, (A_ring_x1, A_buffer_x1, A_firstPlace_x1, A_forcedPlace_x1, A_endPlace_x1, A_wordsToFailure_x1, A_opened_x1)), hpx, ⟨rfl, by rw [ht]; exact hP, va_K.moved ha hK, hD⟩, hS.F ht⟩) hS.2.2 (Nat.le_of_ble_eq_true rfl) (Nat.le_of_ble_eq_true rfl)
  · obtain ⟨A_ring_1, A_buffer_1, A_firstPlace_1, A_forcedPlace_1, A_endPlace_1, A_wordsToFailure_1, A_opened_1⟩ := u_1
    obtain ⟨hP1, hK1, hD1⟩ := hB
    rw [ht] at hP1
    try dsimp only at hw
    have hP : va_P (dC, dI) vwCl [(qA, .inr (0, [.ref qA_ring, .ref qA_buffer, .int A_firstPlace_1, .int A_forcedPlace_1, .int A_endPlace_1, .int A_wordsToFailure_1, .int A_opened_1])), (qA_ring, .inl (cA_ring, 65536, .inl A_ring_1)), (qA_buffer, .inl (cA_buffer, 200, .inl A_buffer_1))] H_1 := hP1
    have hD : va_D A [(qA, .inr (0, [.ref qA_ring, .ref qA_buffer, .int A_firstPlace_1, .int A_forcedPlace_1, .int A_endPlace_1, .int A_wordsToFailure_1, .int A_opened_1])), (qA_ring, .inl (cA_ring, 65536, .inl A_ring_1)), (qA_buffer, .inl (cA_buffer, 200, .inl A_buffer_1))] := hD1.weaken (fun _ _ _ h => hFc _ h)
    refine W.widen (k := 1) (n := 6) (Nat.le_of_ble_eq_true rfl) (Nat.le_of_ble_eq_true rfl) ?_
    refine lv_aload_n hx hb dX0_first_4 rfl (lv_at hl 0 rfl) ?_
    refine lv_aload_n hx hb dX0_first_5 rfl (lv_at hl 0 rfl) ?_
    refine va_get (D := (dC, dI)) (ci := 0) (v := .int A_firstPlace_1) (C := RX0) (T := TX0) (N := 7) hx hb hbg in_X0 hown hK hP 0 rfl rfl 2 (by decide) (hbg _ kw_2) (fun _ h9 => h9) rfl dX0_first_6 ?_
    refine vp_callSi (W.runV (As := [.int A_firstPlace_1]) (rest := []) ⟨hx, hb, hml, hown, hbg⟩ (met_X0_firstRecordFrom l dC dI qA qA_ring qA_buffer cA_ring cA_buffer A_ring_1 A_buffer_1 A_firstPlace_1 A_forcedPlace_1 A_endPlace_1 A_wordsToFailure_1 A_opened_1 A_firstPlace_1 _ hw) (cwV 1 hbg g_RX0_85 rfl rfl rfl (by decide +kernel) ⟨Nat.le_of_ble_eq_true rfl, Nat.le_of_ble_eq_true rfl⟩) ⟨pcR_A_b _ _ _ _ _ _ _ _ _ _ _ _ _ _ _ , va_recv hK hP (ci := 0) (q0 := 0) rfl rfl, fun U hU hW => ⟨rfl, by rw [hU]; exact hP, va_K.moved hW.alike hK⟩⟩ rfl rfl hl.1 rfl (lv_room (Nat.le_of_ble_eq_true rfl)) dX0_first_9 ⟨Nat.le_of_ble_eq_true rfl, Nat.le_of_ble_eq_true rfl⟩) (fun r_2 hw => ?_)
    try dsimp only at hw
    subst hQQ
    refine W.widen (k := 1) (n := 6) (Nat.le_of_ble_eq_true rfl) (Nat.le_of_ble_eq_true rfl) ?_
    refine vx_ret ?_
    exact W.iret (v := r_2) hx hb hr (fun t ht hW => ⟨⟨r_2, (A_ring_1, A_buffer_1, A_firstPlace_1, A_forcedPlace_1, A_endPlace_1, A_wordsToFailure_1, A_opened_1), rfl, hw, by rw [ht]; exact hP, va_K.moved hW.alike hK, hD⟩, hS.F ht⟩) hS.2.2 dX0_first_12
def wp_X0_last (post : Int32 → St_A → Prop) (px : String → St_A → Prop) (A_ring : Nat → Int32) (A_buffer : Nat → Int32) (A_firstPlace : Int32) (A_forcedPlace : Int32) (A_endPlace : Int32) (A_wordsToFailure : Int32) (A_opened : Int32) : Prop :=
  wp_X0_requireOpen (fun u_1 => match u_1 with | (A_ring_1, A_buffer_1, A_firstPlace_1, A_forcedPlace_1, A_endPlace_1, A_wordsToFailure_1, A_opened_1) => wp_X0_lastRecordBefore (fun r_2 => post r_2 (A_ring_1, A_buffer_1, A_firstPlace_1, A_forcedPlace_1, A_endPlace_1, A_wordsToFailure_1, A_opened_1)) A_endPlace_1 A_ring_1 A_buffer_1 A_firstPlace_1 A_forcedPlace_1 A_endPlace_1 A_wordsToFailure_1 A_opened_1) px A_ring A_buffer A_firstPlace A_forcedPlace A_endPlace A_wordsToFailure A_opened
set_option maxHeartbeats 4000000 in
set_option maxRecDepth 100000 in
theorem met_X0_last (l : Launch) (hl9 : l.stackTraces = false) (dC : Nat → ClassId) (dI : Nat → Nat → Nat) (qA qA_ring qA_buffer : Nat) (cA_ring cA_buffer : ClassId) (sz : Nat) (A_ring : Nat → Int32) (A_buffer : Nat → Int32) (A_firstPlace : Int32) (A_forcedPlace : Int32) (A_endPlace : Int32) (A_wordsToFailure : Int32) (A_opened : Int32) (post : Int32 → St_A → Prop) (px : String → St_A → Prop) (hw : wp_X0_last post px A_ring A_buffer A_firstPlace A_forcedPlace A_endPlace A_wordsToFailure A_opened) :
    vx_Met l yX0_last wsX0_last ({ frames := 7, cells := 1, slots := 6, locals := 116 } : Room) (pcX_A dC dI qA qA_ring qA_buffer cA_ring cA_buffer sz A_ring A_buffer A_firstPlace A_forcedPlace A_endPlace A_wordsToFailure A_opened [.ref qA]) (va_Qi post (at_A dC dI (va_A [(qA, .inr (0, [.ref qA_ring, .ref qA_buffer, .int A_firstPlace, .int A_forcedPlace, .int A_endPlace, .int A_wordsToFailure, .int A_opened])), (qA_ring, .inl (cA_ring, 65536, .inl A_ring)), (qA_buffer, .inl (cA_buffer, 200, .inl A_buffer))] sz) qA qA_ring qA_buffer cA_ring cA_buffer) (va_A [(qA, .inr (0, [.ref qA_ring, .ref qA_buffer, .int A_firstPlace, .int A_forcedPlace, .int A_endPlace, .int A_wordsToFailure, .int A_opened])), (qA_ring, .inl (cA_ring, 65536, .inl A_ring)), (qA_buffer, .inl (cA_buffer, 200, .inl A_buffer))] sz)) (vx_X (fun u => px u.1 u.2) (atx_A dC dI (va_A [(qA, .inr (0, [.ref qA_ring, .ref qA_buffer, .int A_firstPlace, .int A_forcedPlace, .int A_endPlace, .int A_wordsToFailure, .int A_opened])), (qA_ring, .inl (cA_ring, 65536, .inl A_ring)), (qA_buffer, .inl (cA_buffer, 200, .inl A_buffer))] sz) qA qA_ring qA_buffer cA_ring cA_buffer) (va_A [(qA, .inr (0, [.ref qA_ring, .ref qA_buffer, .int A_firstPlace, .int A_forcedPlace, .int A_endPlace, .int A_wordsToFailure, .int A_opened])), (qA_ring, .inl (cA_ring, 65536, .inl A_ring)), (qA_buffer, .inl (cA_buffer, 200, .inl A_buffer))] sz)) 1 6 (va_A [(qA, .inr (0, [.ref qA_ring, .ref qA_buffer, .int A_firstPlace, .int A_forcedPlace, .int A_endPlace, .int A_wordsToFailure, .int A_opened])), (qA_ring, .inl (cA_ring, 65536, .inl A_ring)), (qA_buffer, .inl (cA_buffer, 200, .inl A_buffer))] sz) := by
  refine vx_ofW (cc := cX0_last) (maxL := 1) (ret := (some .int)) (by decide) rfl ?_
  intro p e s m args below meth c s₁ B hml hEx hv
  obtain ⟨hav, hsz, hP, hK, hD0, hXW0⟩ := hv
  have hx := B.exec
  have hb := B.bytes
  have hr := B.returns
  have hts := atoms_spec (ws := wsX0_last) B.pre
  have hbg : ∀ w ∈ bigW, w.before args s = true := fun w h => hts w (List.mem_cons_of_mem _ h)
  have hown : s.vm.findClass RX0 = some m.cls := findClass_of_methodNamed B.named
  have hlocks := B.notSynchronized
  subst hsz
  have hD := hD0.self (sz := s.heap.size)
  generalize hAe : va_A [(qA, .inr (0, [.ref qA_ring, .ref qA_buffer, .int A_firstPlace, .int A_forcedPlace, .int A_endPlace, .int A_wordsToFailure, .int A_opened])), (qA_ring, .inl (cA_ring, 65536, .inl A_ring)), (qA_buffer, .inl (cA_buffer, 200, .inl A_buffer))] s.heap.size = A at hD hXW0 ⊢
  have hA : ∀ q : Nat, s.heap.size ≤ q → A q := fun q h => by rw [← hAe]; exact Or.inr h
  have hS : va_S A s.heap s.heap [] := va_S.rf
  have hP : va_P (dC, dI) vwCl [(qA, .inr (0, [.ref qA_ring, .ref qA_buffer, .int A_firstPlace, .int A_forcedPlace, .int A_endPlace, .int A_wordsToFailure, .int A_opened])), (qA_ring, .inl (cA_ring, 65536, .inl A_ring)), (qA_buffer, .inl (cA_buffer, 200, .inl A_buffer))] s.heap := hP
  generalize hQQ : vx_MQ below (va_Qi post (at_A dC dI A qA qA_ring qA_buffer cA_ring cA_buffer) A) (vx_X (fun u => px u.1 u.2) (atx_A dC dI A qA qA_ring qA_buffer cA_ring cA_buffer) A) args s 1 6 A = QQ
  have hl := lv_entry ([.ref qA]) (n := 1) (Nat.le_of_ble_eq_true rfl)
  rw [show entryFrame m args 1 = entryFrame m ([.ref qA] : List Value).toArray 1 by rw [hav], lg_entry_eq]
  generalize (lg_sl ([.ref qA]) ++ List.replicate (1 - (lg_sl ([.ref qA])).length) Slot.unset).toArray = ls at hl ⊢
  have hl : lv_has ls 1 [(0, .ref qA)] := hl
  unfold wp_X0_last at hw
  refine lv_aload_n hx hb dX0_last_0 rfl (lv_at hl 0 rfl) ?_
  have hFc := va_free (wc := [(qA, .inr (0, [.ref qA_ring, .ref qA_buffer, .int A_firstPlace, .int A_forcedPlace, .int A_endPlace, .int A_wordsToFailure, .int A_opened])), (qA_ring, .inl (cA_ring, 65536, .inl A_ring)), (qA_buffer, .inl (cA_buffer, 200, .inl A_buffer))]) hD hS hA [0, 1, 2] rfl
  refine vx_callv (vx_runV (As := []) (rest := []) ⟨hx, hb, hml, hown, hbg⟩ (met_X0_requireOpen l hl9 dC dI qA qA_ring qA_buffer cA_ring cA_buffer s.heap.size A_ring A_buffer A_firstPlace A_forcedPlace A_endPlace A_wordsToFailure A_opened  _ _ hw) (cwV 0 hbg g_RX0_34 rfl rfl rfl (by decide +kernel) ⟨Nat.le_of_ble_eq_true rfl, Nat.le_of_ble_eq_true rfl⟩) ⟨pcX_A_b _ _ _ _ _ _ _ _ _ _ _ _ _ _ _ _, va_recv hK hP (ci := 0) (q0 := 0) rfl rfl, fun U hU hW => ⟨rfl, by rw [hU], by rw [hU]; exact hP, va_K.moved hW.alike hK, hD.weaken (fun _ _ _ _ => trivial), XW.go hXW0 hS hFc hU hW⟩⟩ rfl rfl hl.1 rfl (lv_room (Nat.le_of_ble_eq_true rfl)) dX0_last_1 ⟨Nat.le_of_ble_eq_true rfl, Nat.le_of_ble_eq_true rfl⟩) hS (fun q _ h => hFc q h) hFc (fun q _ h => hFc q h) (fun E9 ce9 q9 u9 t9 H_1 locs ht hvm hpx hBX hz1 hk1 hS hce hcv hcl => ?_) (fun u_1 t_1 H_1 locs ht hvm hw hB hz1 hk1 hS => ?_)
  · obtain ⟨E8, A_ring_x1, A_buffer_x1, A_firstPlace_x1, A_forcedPlace_x1, A_endPlace_x1, A_wordsToFailure_x1, A_opened_x1⟩ := u9
    obtain ⟨rfl, hP1, hK1, hD1⟩ := hBX
    rw [ht] at hP1
    have hP : va_P (dC, dI) vwCl [(qA, .inr (0, [.ref qA_ring, .ref qA_buffer, .int A_firstPlace_x1, .int A_forcedPlace_x1, .int A_endPlace_x1, .int A_wordsToFailure_x1, .int A_opened_x1])), (qA_ring, .inl (cA_ring, 65536, .inl A_ring_x1)), (qA_buffer, .inl (cA_buffer, 200, .inl A_buffer_x1))] H_1 := hP1
    have hD : va_D A [(qA, .inr (0, [.ref qA_ring, .ref qA_buffer, .int A_firstPlace_x1, .int A_forcedPlace_x1, .int A_endPlace_x1, .int A_wordsToFailure_x1, .int A_opened_x1])), (qA_ring, .inl (cA_ring, 65536, .inl A_ring_x1)), (qA_buffer, .inl (cA_buffer, 200, .inl A_buffer_x1))] := hD1.weaken (fun _ _ _ h => hFc _ h)
    subst hQQ
    exact vx_out (fun x hx => (hEx x hx).elim) hlocks hce hcv hcl (fun t ht ha => ⟨(E9, (A_ring_x1, A_buffer_x1, A_firstPlace_x1, A_forcedPlace_x1, A_endPlace_x1, A_wordsToFailure_x1, A_opened_x1)), hpx, ⟨rfl, by rw [ht]; exact hP, va_K.moved ha hK, hD⟩, hS.F ht⟩) hS.2.2 (Nat.le_of_ble_eq_true rfl) (Nat.le_of_ble_eq_true rfl)
  · obtain ⟨A_ring_1, A_buffer_1, A_firstPlace_1, A_forcedPlace_1, A_endPlace_1, A_wordsToFailure_1, A_opened_1⟩ := u_1
    obtain ⟨hP1, hK1, hD1⟩ := hB
    rw [ht] at hP1
    try dsimp only at hw
    have hP : va_P (dC, dI) vwCl [(qA, .inr (0, [.ref qA_ring, .ref qA_buffer, .int A_firstPlace_1, .int A_forcedPlace_1, .int A_endPlace_1, .int A_wordsToFailure_1, .int A_opened_1])), (qA_ring, .inl (cA_ring, 65536, .inl A_ring_1)), (qA_buffer, .inl (cA_buffer, 200, .inl A_buffer_1))] H_1 := hP1
    have hD : va_D A [(qA, .inr (0, [.ref qA_ring, .ref qA_buffer, .int A_firstPlace_1, .int A_forcedPlace_1, .int A_endPlace_1, .int A_wordsToFailure_1, .int A_opened_1])), (qA_ring, .inl (cA_ring, 65536, .inl A_ring_1)), (qA_buffer, .inl (cA_buffer, 200, .inl A_buffer_1))] := hD1.weaken (fun _ _ _ h => hFc _ h)
    refine W.widen (k := 1) (n := 6) (Nat.le_of_ble_eq_true rfl) (Nat.le_of_ble_eq_true rfl) ?_
    refine lv_aload_n hx hb dX0_last_4 rfl (lv_at hl 0 rfl) ?_
    refine lv_aload_n hx hb dX0_last_5 rfl (lv_at hl 0 rfl) ?_
    refine va_get (D := (dC, dI)) (ci := 0) (v := .int A_endPlace_1) (C := RX0) (T := TX0) (N := 7) hx hb hbg in_X0 hown hK hP 0 rfl rfl 4 (by decide) (hbg _ kw_12) (fun _ h9 => h9) rfl dX0_last_6 ?_
    refine vp_callSi (W.runV (As := [.int A_endPlace_1]) (rest := []) ⟨hx, hb, hml, hown, hbg⟩ (met_X0_lastRecordBefore l dC dI qA qA_ring qA_buffer cA_ring cA_buffer A_ring_1 A_buffer_1 A_firstPlace_1 A_forcedPlace_1 A_endPlace_1 A_wordsToFailure_1 A_opened_1 A_endPlace_1 _ hw) (cwV 1 hbg g_RX0_88 rfl rfl rfl (by decide +kernel) ⟨Nat.le_of_ble_eq_true rfl, Nat.le_of_ble_eq_true rfl⟩) ⟨pcR_A_b _ _ _ _ _ _ _ _ _ _ _ _ _ _ _ , va_recv hK hP (ci := 0) (q0 := 0) rfl rfl, fun U hU hW => ⟨rfl, by rw [hU]; exact hP, va_K.moved hW.alike hK⟩⟩ rfl rfl hl.1 rfl (lv_room (Nat.le_of_ble_eq_true rfl)) dX0_last_9 ⟨Nat.le_of_ble_eq_true rfl, Nat.le_of_ble_eq_true rfl⟩) (fun r_2 hw => ?_)
    try dsimp only at hw
    subst hQQ
    refine W.widen (k := 1) (n := 6) (Nat.le_of_ble_eq_true rfl) (Nat.le_of_ble_eq_true rfl) ?_
    refine vx_ret ?_
    exact W.iret (v := r_2) hx hb hr (fun t ht hW => ⟨⟨r_2, (A_ring_1, A_buffer_1, A_firstPlace_1, A_forcedPlace_1, A_endPlace_1, A_wordsToFailure_1, A_opened_1), rfl, hw, by rw [ht]; exact hP, va_K.moved hW.alike hK, hD⟩, hS.F ht⟩) hS.2.2 dX0_last_12
def wp_X0_lastForced (post : Int32 → St_A → Prop) (px : String → St_A → Prop) (A_ring : Nat → Int32) (A_buffer : Nat → Int32) (A_firstPlace : Int32) (A_forcedPlace : Int32) (A_endPlace : Int32) (A_wordsToFailure : Int32) (A_opened : Int32) : Prop :=
  wp_X0_requireOpen (fun u_1 => match u_1 with | (A_ring_1, A_buffer_1, A_firstPlace_1, A_forcedPlace_1, A_endPlace_1, A_wordsToFailure_1, A_opened_1) => wp_X0_lastRecordBefore (fun r_2 => post r_2 (A_ring_1, A_buffer_1, A_firstPlace_1, A_forcedPlace_1, A_endPlace_1, A_wordsToFailure_1, A_opened_1)) A_forcedPlace_1 A_ring_1 A_buffer_1 A_firstPlace_1 A_forcedPlace_1 A_endPlace_1 A_wordsToFailure_1 A_opened_1) px A_ring A_buffer A_firstPlace A_forcedPlace A_endPlace A_wordsToFailure A_opened
set_option maxHeartbeats 4000000 in
set_option maxRecDepth 100000 in
theorem met_X0_lastForced (l : Launch) (hl9 : l.stackTraces = false) (dC : Nat → ClassId) (dI : Nat → Nat → Nat) (qA qA_ring qA_buffer : Nat) (cA_ring cA_buffer : ClassId) (sz : Nat) (A_ring : Nat → Int32) (A_buffer : Nat → Int32) (A_firstPlace : Int32) (A_forcedPlace : Int32) (A_endPlace : Int32) (A_wordsToFailure : Int32) (A_opened : Int32) (post : Int32 → St_A → Prop) (px : String → St_A → Prop) (hw : wp_X0_lastForced post px A_ring A_buffer A_firstPlace A_forcedPlace A_endPlace A_wordsToFailure A_opened) :
    vx_Met l yX0_lastForced wsX0_lastForced ({ frames := 7, cells := 1, slots := 6, locals := 116 } : Room) (pcX_A dC dI qA qA_ring qA_buffer cA_ring cA_buffer sz A_ring A_buffer A_firstPlace A_forcedPlace A_endPlace A_wordsToFailure A_opened [.ref qA]) (va_Qi post (at_A dC dI (va_A [(qA, .inr (0, [.ref qA_ring, .ref qA_buffer, .int A_firstPlace, .int A_forcedPlace, .int A_endPlace, .int A_wordsToFailure, .int A_opened])), (qA_ring, .inl (cA_ring, 65536, .inl A_ring)), (qA_buffer, .inl (cA_buffer, 200, .inl A_buffer))] sz) qA qA_ring qA_buffer cA_ring cA_buffer) (va_A [(qA, .inr (0, [.ref qA_ring, .ref qA_buffer, .int A_firstPlace, .int A_forcedPlace, .int A_endPlace, .int A_wordsToFailure, .int A_opened])), (qA_ring, .inl (cA_ring, 65536, .inl A_ring)), (qA_buffer, .inl (cA_buffer, 200, .inl A_buffer))] sz)) (vx_X (fun u => px u.1 u.2) (atx_A dC dI (va_A [(qA, .inr (0, [.ref qA_ring, .ref qA_buffer, .int A_firstPlace, .int A_forcedPlace, .int A_endPlace, .int A_wordsToFailure, .int A_opened])), (qA_ring, .inl (cA_ring, 65536, .inl A_ring)), (qA_buffer, .inl (cA_buffer, 200, .inl A_buffer))] sz) qA qA_ring qA_buffer cA_ring cA_buffer) (va_A [(qA, .inr (0, [.ref qA_ring, .ref qA_buffer, .int A_firstPlace, .int A_forcedPlace, .int A_endPlace, .int A_wordsToFailure, .int A_opened])), (qA_ring, .inl (cA_ring, 65536, .inl A_ring)), (qA_buffer, .inl (cA_buffer, 200, .inl A_buffer))] sz)) 1 6 (va_A [(qA, .inr (0, [.ref qA_ring, .ref qA_buffer, .int A_firstPlace, .int A_forcedPlace, .int A_endPlace, .int A_wordsToFailure, .int A_opened])), (qA_ring, .inl (cA_ring, 65536, .inl A_ring)), (qA_buffer, .inl (cA_buffer, 200, .inl A_buffer))] sz) := by
  refine vx_ofW (cc := cX0_lastForced) (maxL := 1) (ret := (some .int)) (by decide) rfl ?_
  intro p e s m args below meth c s₁ B hml hEx hv
  obtain ⟨hav, hsz, hP, hK, hD0, hXW0⟩ := hv
  have hx := B.exec
  have hb := B.bytes
  have hr := B.returns
  have hts := atoms_spec (ws := wsX0_lastForced) B.pre
  have hbg : ∀ w ∈ bigW, w.before args s = true := fun w h => hts w (List.mem_cons_of_mem _ h)
  have hown : s.vm.findClass RX0 = some m.cls := findClass_of_methodNamed B.named
  have hlocks := B.notSynchronized
  subst hsz
  have hD := hD0.self (sz := s.heap.size)
  generalize hAe : va_A [(qA, .inr (0, [.ref qA_ring, .ref qA_buffer, .int A_firstPlace, .int A_forcedPlace, .int A_endPlace, .int A_wordsToFailure, .int A_opened])), (qA_ring, .inl (cA_ring, 65536, .inl A_ring)), (qA_buffer, .inl (cA_buffer, 200, .inl A_buffer))] s.heap.size = A at hD hXW0 ⊢
  have hA : ∀ q : Nat, s.heap.size ≤ q → A q := fun q h => by rw [← hAe]; exact Or.inr h
  have hS : va_S A s.heap s.heap [] := va_S.rf
  have hP : va_P (dC, dI) vwCl [(qA, .inr (0, [.ref qA_ring, .ref qA_buffer, .int A_firstPlace, .int A_forcedPlace, .int A_endPlace, .int A_wordsToFailure, .int A_opened])), (qA_ring, .inl (cA_ring, 65536, .inl A_ring)), (qA_buffer, .inl (cA_buffer, 200, .inl A_buffer))] s.heap := hP
  generalize hQQ : vx_MQ below (va_Qi post (at_A dC dI A qA qA_ring qA_buffer cA_ring cA_buffer) A) (vx_X (fun u => px u.1 u.2) (atx_A dC dI A qA qA_ring qA_buffer cA_ring cA_buffer) A) args s 1 6 A = QQ
  have hl := lv_entry ([.ref qA]) (n := 1) (Nat.le_of_ble_eq_true rfl)
  rw [show entryFrame m args 1 = entryFrame m ([.ref qA] : List Value).toArray 1 by rw [hav], lg_entry_eq]
  generalize (lg_sl ([.ref qA]) ++ List.replicate (1 - (lg_sl ([.ref qA])).length) Slot.unset).toArray = ls at hl ⊢
  have hl : lv_has ls 1 [(0, .ref qA)] := hl
  unfold wp_X0_lastForced at hw
  refine lv_aload_n hx hb dX0_lastForced_0 rfl (lv_at hl 0 rfl) ?_
  have hFc := va_free (wc := [(qA, .inr (0, [.ref qA_ring, .ref qA_buffer, .int A_firstPlace, .int A_forcedPlace, .int A_endPlace, .int A_wordsToFailure, .int A_opened])), (qA_ring, .inl (cA_ring, 65536, .inl A_ring)), (qA_buffer, .inl (cA_buffer, 200, .inl A_buffer))]) hD hS hA [0, 1, 2] rfl
  refine vx_callv (vx_runV (As := []) (rest := []) ⟨hx, hb, hml, hown, hbg⟩ (met_X0_requireOpen l hl9 dC dI qA qA_ring qA_buffer cA_ring cA_buffer s.heap.size A_ring A_buffer A_firstPlace A_forcedPlace A_endPlace A_wordsToFailure A_opened  _ _ hw) (cwV 0 hbg g_RX0_34 rfl rfl rfl (by decide +kernel) ⟨Nat.le_of_ble_eq_true rfl, Nat.le_of_ble_eq_true rfl⟩) ⟨pcX_A_b _ _ _ _ _ _ _ _ _ _ _ _ _ _ _ _, va_recv hK hP (ci := 0) (q0 := 0) rfl rfl, fun U hU hW => ⟨rfl, by rw [hU], by rw [hU]; exact hP, va_K.moved hW.alike hK, hD.weaken (fun _ _ _ _ => trivial), XW.go hXW0 hS hFc hU hW⟩⟩ rfl rfl hl.1 rfl (lv_room (Nat.le_of_ble_eq_true rfl)) dX0_lastForced_1 ⟨Nat.le_of_ble_eq_true rfl, Nat.le_of_ble_eq_true rfl⟩) hS (fun q _ h => hFc q h) hFc (fun q _ h => hFc q h) (fun E9 ce9 q9 u9 t9 H_1 locs ht hvm hpx hBX hz1 hk1 hS hce hcv hcl => ?_) (fun u_1 t_1 H_1 locs ht hvm hw hB hz1 hk1 hS => ?_)
  · obtain ⟨E8, A_ring_x1, A_buffer_x1, A_firstPlace_x1, A_forcedPlace_x1, A_endPlace_x1, A_wordsToFailure_x1, A_opened_x1⟩ := u9
    obtain ⟨rfl, hP1, hK1, hD1⟩ := hBX
    rw [ht] at hP1
    have hP : va_P (dC, dI) vwCl [(qA, .inr (0, [.ref qA_ring, .ref qA_buffer, .int A_firstPlace_x1, .int A_forcedPlace_x1, .int A_endPlace_x1, .int A_wordsToFailure_x1, .int A_opened_x1])), (qA_ring, .inl (cA_ring, 65536, .inl A_ring_x1)), (qA_buffer, .inl (cA_buffer, 200, .inl A_buffer_x1))] H_1 := hP1
    have hD : va_D A [(qA, .inr (0, [.ref qA_ring, .ref qA_buffer, .int A_firstPlace_x1, .int A_forcedPlace_x1, .int A_endPlace_x1, .int A_wordsToFailure_x1, .int A_opened_x1])), (qA_ring, .inl (cA_ring, 65536, .inl A_ring_x1)), (qA_buffer, .inl (cA_buffer, 200, .inl A_buffer_x1))] := hD1.weaken (fun _ _ _ h => hFc _ h)
    subst hQQ
    exact vx_out (fun x hx => (hEx x hx).elim) hlocks hce hcv hcl (fun t ht ha => ⟨(E9, (A_ring_x1, A_buffer_x1, A_firstPlace_x1, A_forcedPlace_x1, A_endPlace_x1, A_wordsToFailure_x1, A_opened_x1)), hpx, ⟨rfl, by rw [ht]; exact hP, va_K.moved ha hK, hD⟩, hS.F ht⟩) hS.2.2 (Nat.le_of_ble_eq_true rfl) (Nat.le_of_ble_eq_true rfl)
  · obtain ⟨A_ring_1, A_buffer_1, A_firstPlace_1, A_forcedPlace_1, A_endPlace_1, A_wordsToFailure_1, A_opened_1⟩ := u_1
    obtain ⟨hP1, hK1, hD1⟩ := hB
    rw [ht] at hP1
    try dsimp only at hw
    have hP : va_P (dC, dI) vwCl [(qA, .inr (0, [.ref qA_ring, .ref qA_buffer, .int A_firstPlace_1, .int A_forcedPlace_1, .int A_endPlace_1, .int A_wordsToFailure_1, .int A_opened_1])), (qA_ring, .inl (cA_ring, 65536, .inl A_ring_1)), (qA_buffer, .inl (cA_buffer, 200, .inl A_buffer_1))] H_1 := hP1
    have hD : va_D A [(qA, .inr (0, [.ref qA_ring, .ref qA_buffer, .int A_firstPlace_1, .int A_forcedPlace_1, .int A_endPlace_1, .int A_wordsToFailure_1, .int A_opened_1])), (qA_ring, .inl (cA_ring, 65536, .inl A_ring_1)), (qA_buffer, .inl (cA_buffer, 200, .inl A_buffer_1))] := hD1.weaken (fun _ _ _ h => hFc _ h)
    refine W.widen (k := 1) (n := 6) (Nat.le_of_ble_eq_true rfl) (Nat.le_of_ble_eq_true rfl) ?_
    refine lv_aload_n hx hb dX0_lastForced_4 rfl (lv_at hl 0 rfl) ?_
    refine lv_aload_n hx hb dX0_lastForced_5 rfl (lv_at hl 0 rfl) ?_
    refine va_get (D := (dC, dI)) (ci := 0) (v := .int A_forcedPlace_1) (C := RX0) (T := TX0) (N := 7) hx hb hbg in_X0 hown hK hP 0 rfl rfl 3 (by decide) (hbg _ kw_51) (fun _ h9 => h9) rfl dX0_lastForced_6 ?_
    refine vp_callSi (W.runV (As := [.int A_forcedPlace_1]) (rest := []) ⟨hx, hb, hml, hown, hbg⟩ (met_X0_lastRecordBefore l dC dI qA qA_ring qA_buffer cA_ring cA_buffer A_ring_1 A_buffer_1 A_firstPlace_1 A_forcedPlace_1 A_endPlace_1 A_wordsToFailure_1 A_opened_1 A_forcedPlace_1 _ hw) (cwV 1 hbg g_RX0_88 rfl rfl rfl (by decide +kernel) ⟨Nat.le_of_ble_eq_true rfl, Nat.le_of_ble_eq_true rfl⟩) ⟨pcR_A_b _ _ _ _ _ _ _ _ _ _ _ _ _ _ _ , va_recv hK hP (ci := 0) (q0 := 0) rfl rfl, fun U hU hW => ⟨rfl, by rw [hU]; exact hP, va_K.moved hW.alike hK⟩⟩ rfl rfl hl.1 rfl (lv_room (Nat.le_of_ble_eq_true rfl)) dX0_lastForced_9 ⟨Nat.le_of_ble_eq_true rfl, Nat.le_of_ble_eq_true rfl⟩) (fun r_2 hw => ?_)
    try dsimp only at hw
    subst hQQ
    refine W.widen (k := 1) (n := 6) (Nat.le_of_ble_eq_true rfl) (Nat.le_of_ble_eq_true rfl) ?_
    refine vx_ret ?_
    exact W.iret (v := r_2) hx hb hr (fun t ht hW => ⟨⟨r_2, (A_ring_1, A_buffer_1, A_firstPlace_1, A_forcedPlace_1, A_endPlace_1, A_wordsToFailure_1, A_opened_1), rfl, hw, by rw [ht]; exact hP, va_K.moved hW.alike hK, hD⟩, hS.F ht⟩) hS.2.2 dX0_lastForced_12
def wp_X0_next (post : Int32 → St_A → Prop) (px : String → St_A → Prop) (x1 : Int32) (A_ring : Nat → Int32) (A_buffer : Nat → Int32) (A_firstPlace : Int32) (A_forcedPlace : Int32) (A_endPlace : Int32) (A_wordsToFailure : Int32) (A_opened : Int32) : Prop :=
  wp_X0_requireOpen (fun u_1 => match u_1 with | (A_ring_1, A_buffer_1, A_firstPlace_1, A_forcedPlace_1, A_endPlace_1, A_wordsToFailure_1, A_opened_1) => wp_X0_requireRecord (fun u_2 => match u_2 with | (A_ring_2, A_buffer_2, A_firstPlace_2, A_forcedPlace_2, A_endPlace_2, A_wordsToFailure_2, A_opened_2) => wp_X0_behind (fun r_3 => wp_X0_firstRecordFrom (fun r_4 => post r_4 (A_ring_2, A_buffer_2, A_firstPlace_2, A_forcedPlace_2, A_endPlace_2, A_wordsToFailure_2, A_opened_2)) r_3 A_ring_2 A_buffer_2 A_firstPlace_2 A_forcedPlace_2 A_endPlace_2 A_wordsToFailure_2 A_opened_2) x1 A_ring_2 A_buffer_2 A_firstPlace_2 A_forcedPlace_2 A_endPlace_2 A_wordsToFailure_2 A_opened_2) px x1 A_ring_1 A_buffer_1 A_firstPlace_1 A_forcedPlace_1 A_endPlace_1 A_wordsToFailure_1 A_opened_1) px A_ring A_buffer A_firstPlace A_forcedPlace A_endPlace A_wordsToFailure A_opened
set_option maxHeartbeats 4000000 in
set_option maxRecDepth 100000 in
theorem met_X0_next (l : Launch) (hl9 : l.stackTraces = false) (dC : Nat → ClassId) (dI : Nat → Nat → Nat) (qA qA_ring qA_buffer : Nat) (cA_ring cA_buffer : ClassId) (sz : Nat) (A_ring : Nat → Int32) (A_buffer : Nat → Int32) (A_firstPlace : Int32) (A_forcedPlace : Int32) (A_endPlace : Int32) (A_wordsToFailure : Int32) (A_opened : Int32) (x1 : Int32) (post : Int32 → St_A → Prop) (px : String → St_A → Prop) (hw : wp_X0_next post px x1 A_ring A_buffer A_firstPlace A_forcedPlace A_endPlace A_wordsToFailure A_opened) :
    vx_Met l yX0_next wsX0_next ({ frames := 7, cells := 2, slots := 12, locals := 117 } : Room) (pcX_A dC dI qA qA_ring qA_buffer cA_ring cA_buffer sz A_ring A_buffer A_firstPlace A_forcedPlace A_endPlace A_wordsToFailure A_opened [.ref qA, .int x1]) (va_Qi post (at_A dC dI (va_A [(qA, .inr (0, [.ref qA_ring, .ref qA_buffer, .int A_firstPlace, .int A_forcedPlace, .int A_endPlace, .int A_wordsToFailure, .int A_opened])), (qA_ring, .inl (cA_ring, 65536, .inl A_ring)), (qA_buffer, .inl (cA_buffer, 200, .inl A_buffer))] sz) qA qA_ring qA_buffer cA_ring cA_buffer) (va_A [(qA, .inr (0, [.ref qA_ring, .ref qA_buffer, .int A_firstPlace, .int A_forcedPlace, .int A_endPlace, .int A_wordsToFailure, .int A_opened])), (qA_ring, .inl (cA_ring, 65536, .inl A_ring)), (qA_buffer, .inl (cA_buffer, 200, .inl A_buffer))] sz)) (vx_X (fun u => px u.1 u.2) (atx_A dC dI (va_A [(qA, .inr (0, [.ref qA_ring, .ref qA_buffer, .int A_firstPlace, .int A_forcedPlace, .int A_endPlace, .int A_wordsToFailure, .int A_opened])), (qA_ring, .inl (cA_ring, 65536, .inl A_ring)), (qA_buffer, .inl (cA_buffer, 200, .inl A_buffer))] sz) qA qA_ring qA_buffer cA_ring cA_buffer) (va_A [(qA, .inr (0, [.ref qA_ring, .ref qA_buffer, .int A_firstPlace, .int A_forcedPlace, .int A_endPlace, .int A_wordsToFailure, .int A_opened])), (qA_ring, .inl (cA_ring, 65536, .inl A_ring)), (qA_buffer, .inl (cA_buffer, 200, .inl A_buffer))] sz)) 2 12 (va_A [(qA, .inr (0, [.ref qA_ring, .ref qA_buffer, .int A_firstPlace, .int A_forcedPlace, .int A_endPlace, .int A_wordsToFailure, .int A_opened])), (qA_ring, .inl (cA_ring, 65536, .inl A_ring)), (qA_buffer, .inl (cA_buffer, 200, .inl A_buffer))] sz) := by
  refine vx_ofW (cc := cX0_next) (maxL := 2) (ret := (some .int)) (by decide) rfl ?_
  intro p e s m args below meth c s₁ B hml hEx hv
  obtain ⟨hav, hsz, hP, hK, hD0, hXW0⟩ := hv
  have hx := B.exec
  have hb := B.bytes
  have hr := B.returns
  have hts := atoms_spec (ws := wsX0_next) B.pre
  have hbg : ∀ w ∈ bigW, w.before args s = true := fun w h => hts w (List.mem_cons_of_mem _ h)
  have hown : s.vm.findClass RX0 = some m.cls := findClass_of_methodNamed B.named
  have hlocks := B.notSynchronized
  subst hsz
  have hD := hD0.self (sz := s.heap.size)
  generalize hAe : va_A [(qA, .inr (0, [.ref qA_ring, .ref qA_buffer, .int A_firstPlace, .int A_forcedPlace, .int A_endPlace, .int A_wordsToFailure, .int A_opened])), (qA_ring, .inl (cA_ring, 65536, .inl A_ring)), (qA_buffer, .inl (cA_buffer, 200, .inl A_buffer))] s.heap.size = A at hD hXW0 ⊢
  have hA : ∀ q : Nat, s.heap.size ≤ q → A q := fun q h => by rw [← hAe]; exact Or.inr h
  have hS : va_S A s.heap s.heap [] := va_S.rf
  have hP : va_P (dC, dI) vwCl [(qA, .inr (0, [.ref qA_ring, .ref qA_buffer, .int A_firstPlace, .int A_forcedPlace, .int A_endPlace, .int A_wordsToFailure, .int A_opened])), (qA_ring, .inl (cA_ring, 65536, .inl A_ring)), (qA_buffer, .inl (cA_buffer, 200, .inl A_buffer))] s.heap := hP
  generalize hQQ : vx_MQ below (va_Qi post (at_A dC dI A qA qA_ring qA_buffer cA_ring cA_buffer) A) (vx_X (fun u => px u.1 u.2) (atx_A dC dI A qA qA_ring qA_buffer cA_ring cA_buffer) A) args s 2 12 A = QQ
  have hl := lv_entry ([.ref qA, .int x1]) (n := 2) (Nat.le_of_ble_eq_true rfl)
  rw [show entryFrame m args 2 = entryFrame m ([.ref qA, .int x1] : List Value).toArray 2 by rw [hav], lg_entry_eq]
  generalize (lg_sl ([.ref qA, .int x1]) ++ List.replicate (2 - (lg_sl ([.ref qA, .int x1])).length) Slot.unset).toArray = ls at hl ⊢
  have hl : lv_has ls 2 [(0, .ref qA), (1, .int x1)] := hl
  unfold wp_X0_next at hw
  refine lv_aload_n hx hb dX0_next_0 rfl (lv_at hl 0 rfl) ?_
  have hFc := va_free (wc := [(qA, .inr (0, [.ref qA_ring, .ref qA_buffer, .int A_firstPlace, .int A_forcedPlace, .int A_endPlace, .int A_wordsToFailure, .int A_opened])), (qA_ring, .inl (cA_ring, 65536, .inl A_ring)), (qA_buffer, .inl (cA_buffer, 200, .inl A_buffer))]) hD hS hA [0, 1, 2] rfl
  refine vx_callv (vx_runV (As := []) (rest := []) ⟨hx, hb, hml, hown, hbg⟩ (met_X0_requireOpen l hl9 dC dI qA qA_ring qA_buffer cA_ring cA_buffer s.heap.size A_ring A_buffer A_firstPlace A_forcedPlace A_endPlace A_wordsToFailure A_opened  _ _ hw) (cwV 0 hbg g_RX0_34 rfl rfl rfl (by decide +kernel) ⟨Nat.le_of_ble_eq_true rfl, Nat.le_of_ble_eq_true rfl⟩) ⟨pcX_A_b _ _ _ _ _ _ _ _ _ _ _ _ _ _ _ _, va_recv hK hP (ci := 0) (q0 := 0) rfl rfl, fun U hU hW => ⟨rfl, by rw [hU], by rw [hU]; exact hP, va_K.moved hW.alike hK, hD.weaken (fun _ _ _ _ => trivial), XW.go hXW0 hS hFc hU hW⟩⟩ rfl rfl hl.1 rfl (lv_room (Nat.le_of_ble_eq_true rfl)) dX0_next_1 ⟨Nat.le_of_ble_eq_true rfl, Nat.le_of_ble_eq_true rfl⟩) hS (fun q _ h => hFc q h) hFc (fun q _ h => hFc q h) (fun E9 ce9 q9 u9 t9 H_1 locs ht hvm hpx hBX hz1 hk1 hS hce hcv hcl => ?_) (fun u_1 t_1 H_1 locs ht hvm hw hB hz1 hk1 hS => ?_)
  · obtain ⟨E8, A_ring_x1, A_buffer_x1, A_firstPlace_x1, A_forcedPlace_x1, A_endPlace_x1, A_wordsToFailure_x1, A_opened_x1⟩ := u9
    obtain ⟨rfl, hP1, hK1, hD1⟩ := hBX
    rw [ht] at hP1
    have hP : va_P (dC, dI) vwCl [(qA, .inr (0, [.ref qA_ring, .ref qA_buffer, .int A_firstPlace_x1, .int A_forcedPlace_x1, .int A_endPlace_x1, .int A_wordsToFailure_x1, .int A_opened_x1])), (qA_ring, .inl (cA_ring, 65536, .inl A_ring_x1)), (qA_buffer, .inl (cA_buffer, 200, .inl A_buffer_x1))] H_1 := hP1
    have hD : va_D A [(qA, .inr (0, [.ref qA_ring, .ref qA_buffer, .int A_firstPlace_x1, .int A_forcedPlace_x1, .int A_endPlace_x1, .int A_wordsToFailure_x1, .int A_opened_x1])), (qA_ring, .inl (cA_ring, 65536, .inl A_ring_x1)), (qA_buffer, .inl (cA_buffer, 200, .inl A_buffer_x1))] := hD1.weaken (fun _ _ _ h => hFc _ h)
    subst hQQ
    exact vx_out (fun x hx => (hEx x hx).elim) hlocks hce hcv hcl (fun t ht ha => ⟨(E9, (A_ring_x1, A_buffer_x1, A_firstPlace_x1, A_forcedPlace_x1, A_endPlace_x1, A_wordsToFailure_x1, A_opened_x1)), hpx, ⟨rfl, by rw [ht]; exact hP, va_K.moved ha hK, hD⟩, hS.F ht⟩) hS.2.2 (Nat.le_of_ble_eq_true rfl) (Nat.le_of_ble_eq_true rfl)
  · obtain ⟨A_ring_1, A_buffer_1, A_firstPlace_1, A_forcedPlace_1, A_endPlace_1, A_wordsToFailure_1, A_opened_1⟩ := u_1
    obtain ⟨hP1, hK1, hD1⟩ := hB
    rw [ht] at hP1
    try dsimp only at hw
    have hP : va_P (dC, dI) vwCl [(qA, .inr (0, [.ref qA_ring, .ref qA_buffer, .int A_firstPlace_1, .int A_forcedPlace_1, .int A_endPlace_1, .int A_wordsToFailure_1, .int A_opened_1])), (qA_ring, .inl (cA_ring, 65536, .inl A_ring_1)), (qA_buffer, .inl (cA_buffer, 200, .inl A_buffer_1))] H_1 := hP1
    have hD : va_D A [(qA, .inr (0, [.ref qA_ring, .ref qA_buffer, .int A_firstPlace_1, .int A_forcedPlace_1, .int A_endPlace_1, .int A_wordsToFailure_1, .int A_opened_1])), (qA_ring, .inl (cA_ring, 65536, .inl A_ring_1)), (qA_buffer, .inl (cA_buffer, 200, .inl A_buffer_1))] := hD1.weaken (fun _ _ _ h => hFc _ h)
    refine W.widen (k := 1) (n := 6) (Nat.le_of_ble_eq_true rfl) (Nat.le_of_ble_eq_true rfl) ?_
    refine lv_aload_n hx hb dX0_next_4 rfl (lv_at hl 0 rfl) ?_
    refine lv_iload_n hx hb dX0_next_5 rfl (lv_at hl 1 rfl) ?_
    have hFc := va_free (wc := [(qA, .inr (0, [.ref qA_ring, .ref qA_buffer, .int A_firstPlace_1, .int A_forcedPlace_1, .int A_endPlace_1, .int A_wordsToFailure_1, .int A_opened_1])), (qA_ring, .inl (cA_ring, 65536, .inl A_ring_1)), (qA_buffer, .inl (cA_buffer, 200, .inl A_buffer_1))]) hD hS hA [0, 1, 2] rfl
    refine vx_callv (vx_runV (As := [.int x1]) (rest := []) ⟨hx, hb, hml, hown, hbg⟩ (met_X0_requireRecord l hl9 dC dI qA qA_ring qA_buffer cA_ring cA_buffer H_1.size A_ring_1 A_buffer_1 A_firstPlace_1 A_forcedPlace_1 A_endPlace_1 A_wordsToFailure_1 A_opened_1 x1 _ _ hw) (cwV 1 hbg g_RX0_71 rfl rfl rfl (by decide +kernel) ⟨Nat.le_of_ble_eq_true rfl, Nat.le_of_ble_eq_true rfl⟩) ⟨pcX_A_b _ _ _ _ _ _ _ _ _ _ _ _ _ _ _ _, va_recv hK hP (ci := 0) (q0 := 0) rfl rfl, fun U hU hW => ⟨rfl, by rw [hU], by rw [hU]; exact hP, va_K.moved hW.alike hK, hD.weaken (fun _ _ _ _ => trivial), XW.go hXW0 hS hFc hU hW⟩⟩ rfl rfl hl.1 rfl (lv_room (Nat.le_of_ble_eq_true rfl)) dX0_next_6 ⟨Nat.le_of_ble_eq_true rfl, Nat.le_of_ble_eq_true rfl⟩) hS (fun q _ h => hFc q h) hFc (fun q _ h => hFc q h) (fun E9 ce9 q9 u9 t9 H_2 locs ht hvm hpx hBX hz1 hk1 hS hce hcv hcl => ?_) (fun u_2 t_2 H_2 locs ht hvm hw hB hz1 hk1 hS => ?_)
    · obtain ⟨E8, A_ring_x2, A_buffer_x2, A_firstPlace_x2, A_forcedPlace_x2, A_endPlace_x2, A_wordsToFailure_x2, A_opened_x2⟩ := u9
      obtain ⟨rfl, hP1, hK1, hD1⟩ := hBX
      rw [ht] at hP1
      have hP : va_P (dC, dI) vwCl [(qA, .inr (0, [.ref qA_ring, .ref qA_buffer, .int A_firstPlace_x2, .int A_forcedPlace_x2, .int A_endPlace_x2, .int A_wordsToFailure_x2, .int A_opened_x2])), (qA_ring, .inl (cA_ring, 65536, .inl A_ring_x2)), (qA_buffer, .inl (cA_buffer, 200, .inl A_buffer_x2))] H_2 := hP1
      have hD : va_D A [(qA, .inr (0, [.ref qA_ring, .ref qA_buffer, .int A_firstPlace_x2, .int A_forcedPlace_x2, .int A_endPlace_x2, .int A_wordsToFailure_x2, .int A_opened_x2])), (qA_ring, .inl (cA_ring, 65536, .inl A_ring_x2)), (qA_buffer, .inl (cA_buffer, 200, .inl A_buffer_x2))] := hD1.weaken (fun _ _ _ h => hFc _ h)
      subst hQQ
      exact vx_out (fun x hx => (hEx x hx).elim) hlocks hce hcv hcl (fun t ht ha => ⟨(E9, (A_ring_x2, A_buffer_x2, A_firstPlace_x2, A_forcedPlace_x2, A_endPlace_x2, A_wordsToFailure_x2, A_opened_x2)), hpx, ⟨rfl, by rw [ht]; exact hP, va_K.moved ha hK, hD⟩, hS.F ht⟩) hS.2.2 (Nat.le_of_ble_eq_true rfl) (Nat.le_of_ble_eq_true rfl)
    · obtain ⟨A_ring_2, A_buffer_2, A_firstPlace_2, A_forcedPlace_2, A_endPlace_2, A_wordsToFailure_2, A_opened_2⟩ := u_2
      obtain ⟨hP1, hK1, hD1⟩ := hB
      rw [ht] at hP1
      try dsimp only at hw
      have hP : va_P (dC, dI) vwCl [(qA, .inr (0, [.ref qA_ring, .ref qA_buffer, .int A_firstPlace_2, .int A_forcedPlace_2, .int A_endPlace_2, .int A_wordsToFailure_2, .int A_opened_2])), (qA_ring, .inl (cA_ring, 65536, .inl A_ring_2)), (qA_buffer, .inl (cA_buffer, 200, .inl A_buffer_2))] H_2 := hP1
      have hD : va_D A [(qA, .inr (0, [.ref qA_ring, .ref qA_buffer, .int A_firstPlace_2, .int A_forcedPlace_2, .int A_endPlace_2, .int A_wordsToFailure_2, .int A_opened_2])), (qA_ring, .inl (cA_ring, 65536, .inl A_ring_2)), (qA_buffer, .inl (cA_buffer, 200, .inl A_buffer_2))] := hD1.weaken (fun _ _ _ h => hFc _ h)
      refine W.widen (k := 2) (n := 12) (Nat.le_of_ble_eq_true rfl) (Nat.le_of_ble_eq_true rfl) ?_
      refine lv_aload_n hx hb dX0_next_9 rfl (lv_at hl 0 rfl) ?_
      refine lv_aload_n hx hb dX0_next_10 rfl (lv_at hl 0 rfl) ?_
      refine lv_iload_n hx hb dX0_next_11 rfl (lv_at hl 1 rfl) ?_
      refine vp_callSi (W.runV (As := [.int x1]) (rest := [.ref qA]) ⟨hx, hb, hml, hown, hbg⟩ (met_X0_behind l dC dI qA qA_ring qA_buffer cA_ring cA_buffer A_ring_2 A_buffer_2 A_firstPlace_2 A_forcedPlace_2 A_endPlace_2 A_wordsToFailure_2 A_opened_2 x1 _ hw) (cwV 1 hbg g_RX0_74 rfl rfl rfl (by decide +kernel) ⟨Nat.le_of_ble_eq_true rfl, Nat.le_of_ble_eq_true rfl⟩) ⟨pcR_A_b _ _ _ _ _ _ _ _ _ _ _ _ _ _ _ , va_recv hK hP (ci := 0) (q0 := 0) rfl rfl, fun U hU hW => ⟨rfl, by rw [hU]; exact hP, va_K.moved hW.alike hK⟩⟩ rfl rfl hl.1 rfl (lv_room (Nat.le_of_ble_eq_true rfl)) dX0_next_12 ⟨Nat.le_of_ble_eq_true rfl, Nat.le_of_ble_eq_true rfl⟩) (fun r_3 hw => ?_)
      try dsimp only at hw
      refine vp_callSi (W.runV (As := [.int r_3]) (rest := []) ⟨hx, hb, hml, hown, hbg⟩ (met_X0_firstRecordFrom l dC dI qA qA_ring qA_buffer cA_ring cA_buffer A_ring_2 A_buffer_2 A_firstPlace_2 A_forcedPlace_2 A_endPlace_2 A_wordsToFailure_2 A_opened_2 r_3 _ hw) (cwV 1 hbg g_RX0_85 rfl rfl rfl (by decide +kernel) ⟨Nat.le_of_ble_eq_true rfl, Nat.le_of_ble_eq_true rfl⟩) ⟨pcR_A_b _ _ _ _ _ _ _ _ _ _ _ _ _ _ _ , va_recv hK hP (ci := 0) (q0 := 0) rfl rfl, fun U hU hW => ⟨rfl, by rw [hU]; exact hP, va_K.moved hW.alike hK⟩⟩ rfl rfl hl.1 rfl (lv_room (Nat.le_of_ble_eq_true rfl)) dX0_next_15 ⟨Nat.le_of_ble_eq_true rfl, Nat.le_of_ble_eq_true rfl⟩) (fun r_4 hw => ?_)
      try dsimp only at hw
      subst hQQ
      refine W.widen (k := 2) (n := 12) (Nat.le_of_ble_eq_true rfl) (Nat.le_of_ble_eq_true rfl) ?_
      refine vx_ret ?_
      exact W.iret (v := r_4) hx hb hr (fun t ht hW => ⟨⟨r_4, (A_ring_2, A_buffer_2, A_firstPlace_2, A_forcedPlace_2, A_endPlace_2, A_wordsToFailure_2, A_opened_2), rfl, hw, by rw [ht]; exact hP, va_K.moved hW.alike hK, hD⟩, hS.F ht⟩) hS.2.2 dX0_next_18
def wp_X0_before (post : Int32 → St_A → Prop) (px : String → St_A → Prop) (x1 : Int32) (A_ring : Nat → Int32) (A_buffer : Nat → Int32) (A_firstPlace : Int32) (A_forcedPlace : Int32) (A_endPlace : Int32) (A_wordsToFailure : Int32) (A_opened : Int32) : Prop :=
  wp_X0_requireOpen (fun u_1 => match u_1 with | (A_ring_1, A_buffer_1, A_firstPlace_1, A_forcedPlace_1, A_endPlace_1, A_wordsToFailure_1, A_opened_1) => wp_X0_requireRecord (fun u_2 => match u_2 with | (A_ring_2, A_buffer_2, A_firstPlace_2, A_forcedPlace_2, A_endPlace_2, A_wordsToFailure_2, A_opened_2) => wp_X0_lastRecordBefore (fun r_3 => post r_3 (A_ring_2, A_buffer_2, A_firstPlace_2, A_forcedPlace_2, A_endPlace_2, A_wordsToFailure_2, A_opened_2)) x1 A_ring_2 A_buffer_2 A_firstPlace_2 A_forcedPlace_2 A_endPlace_2 A_wordsToFailure_2 A_opened_2) px x1 A_ring_1 A_buffer_1 A_firstPlace_1 A_forcedPlace_1 A_endPlace_1 A_wordsToFailure_1 A_opened_1) px A_ring A_buffer A_firstPlace A_forcedPlace A_endPlace A_wordsToFailure A_opened
set_option maxHeartbeats 4000000 in
set_option maxRecDepth 100000 in
theorem met_X0_before (l : Launch) (hl9 : l.stackTraces = false) (dC : Nat → ClassId) (dI : Nat → Nat → Nat) (qA qA_ring qA_buffer : Nat) (cA_ring cA_buffer : ClassId) (sz : Nat) (A_ring : Nat → Int32) (A_buffer : Nat → Int32) (A_firstPlace : Int32) (A_forcedPlace : Int32) (A_endPlace : Int32) (A_wordsToFailure : Int32) (A_opened : Int32) (x1 : Int32) (post : Int32 → St_A → Prop) (px : String → St_A → Prop) (hw : wp_X0_before post px x1 A_ring A_buffer A_firstPlace A_forcedPlace A_endPlace A_wordsToFailure A_opened) :
    vx_Met l yX0_before wsX0_before ({ frames := 7, cells := 2, slots := 12, locals := 117 } : Room) (pcX_A dC dI qA qA_ring qA_buffer cA_ring cA_buffer sz A_ring A_buffer A_firstPlace A_forcedPlace A_endPlace A_wordsToFailure A_opened [.ref qA, .int x1]) (va_Qi post (at_A dC dI (va_A [(qA, .inr (0, [.ref qA_ring, .ref qA_buffer, .int A_firstPlace, .int A_forcedPlace, .int A_endPlace, .int A_wordsToFailure, .int A_opened])), (qA_ring, .inl (cA_ring, 65536, .inl A_ring)), (qA_buffer, .inl (cA_buffer, 200, .inl A_buffer))] sz) qA qA_ring qA_buffer cA_ring cA_buffer) (va_A [(qA, .inr (0, [.ref qA_ring, .ref qA_buffer, .int A_firstPlace, .int A_forcedPlace, .int A_endPlace, .int A_wordsToFailure, .int A_opened])), (qA_ring, .inl (cA_ring, 65536, .inl A_ring)), (qA_buffer, .inl (cA_buffer, 200, .inl A_buffer))] sz)) (vx_X (fun u => px u.1 u.2) (atx_A dC dI (va_A [(qA, .inr (0, [.ref qA_ring, .ref qA_buffer, .int A_firstPlace, .int A_forcedPlace, .int A_endPlace, .int A_wordsToFailure, .int A_opened])), (qA_ring, .inl (cA_ring, 65536, .inl A_ring)), (qA_buffer, .inl (cA_buffer, 200, .inl A_buffer))] sz) qA qA_ring qA_buffer cA_ring cA_buffer) (va_A [(qA, .inr (0, [.ref qA_ring, .ref qA_buffer, .int A_firstPlace, .int A_forcedPlace, .int A_endPlace, .int A_wordsToFailure, .int A_opened])), (qA_ring, .inl (cA_ring, 65536, .inl A_ring)), (qA_buffer, .inl (cA_buffer, 200, .inl A_buffer))] sz)) 2 12 (va_A [(qA, .inr (0, [.ref qA_ring, .ref qA_buffer, .int A_firstPlace, .int A_forcedPlace, .int A_endPlace, .int A_wordsToFailure, .int A_opened])), (qA_ring, .inl (cA_ring, 65536, .inl A_ring)), (qA_buffer, .inl (cA_buffer, 200, .inl A_buffer))] sz) := by
  refine vx_ofW (cc := cX0_before) (maxL := 2) (ret := (some .int)) (by decide) rfl ?_
  intro p e s m args below meth c s₁ B hml hEx hv
  obtain ⟨hav, hsz, hP, hK, hD0, hXW0⟩ := hv
  have hx := B.exec
  have hb := B.bytes
  have hr := B.returns
  have hts := atoms_spec (ws := wsX0_before) B.pre
  have hbg : ∀ w ∈ bigW, w.before args s = true := fun w h => hts w (List.mem_cons_of_mem _ h)
  have hown : s.vm.findClass RX0 = some m.cls := findClass_of_methodNamed B.named
  have hlocks := B.notSynchronized
  subst hsz
  have hD := hD0.self (sz := s.heap.size)
  generalize hAe : va_A [(qA, .inr (0, [.ref qA_ring, .ref qA_buffer, .int A_firstPlace, .int A_forcedPlace, .int A_endPlace, .int A_wordsToFailure, .int A_opened])), (qA_ring, .inl (cA_ring, 65536, .inl A_ring)), (qA_buffer, .inl (cA_buffer, 200, .inl A_buffer))] s.heap.size = A at hD hXW0 ⊢
  have hA : ∀ q : Nat, s.heap.size ≤ q → A q := fun q h => by rw [← hAe]; exact Or.inr h
  have hS : va_S A s.heap s.heap [] := va_S.rf
  have hP : va_P (dC, dI) vwCl [(qA, .inr (0, [.ref qA_ring, .ref qA_buffer, .int A_firstPlace, .int A_forcedPlace, .int A_endPlace, .int A_wordsToFailure, .int A_opened])), (qA_ring, .inl (cA_ring, 65536, .inl A_ring)), (qA_buffer, .inl (cA_buffer, 200, .inl A_buffer))] s.heap := hP
  generalize hQQ : vx_MQ below (va_Qi post (at_A dC dI A qA qA_ring qA_buffer cA_ring cA_buffer) A) (vx_X (fun u => px u.1 u.2) (atx_A dC dI A qA qA_ring qA_buffer cA_ring cA_buffer) A) args s 2 12 A = QQ
  have hl := lv_entry ([.ref qA, .int x1]) (n := 2) (Nat.le_of_ble_eq_true rfl)
  rw [show entryFrame m args 2 = entryFrame m ([.ref qA, .int x1] : List Value).toArray 2 by rw [hav], lg_entry_eq]
  generalize (lg_sl ([.ref qA, .int x1]) ++ List.replicate (2 - (lg_sl ([.ref qA, .int x1])).length) Slot.unset).toArray = ls at hl ⊢
  have hl : lv_has ls 2 [(0, .ref qA), (1, .int x1)] := hl
  unfold wp_X0_before at hw
  refine lv_aload_n hx hb dX0_before_0 rfl (lv_at hl 0 rfl) ?_
  have hFc := va_free (wc := [(qA, .inr (0, [.ref qA_ring, .ref qA_buffer, .int A_firstPlace, .int A_forcedPlace, .int A_endPlace, .int A_wordsToFailure, .int A_opened])), (qA_ring, .inl (cA_ring, 65536, .inl A_ring)), (qA_buffer, .inl (cA_buffer, 200, .inl A_buffer))]) hD hS hA [0, 1, 2] rfl
  refine vx_callv (vx_runV (As := []) (rest := []) ⟨hx, hb, hml, hown, hbg⟩ (met_X0_requireOpen l hl9 dC dI qA qA_ring qA_buffer cA_ring cA_buffer s.heap.size A_ring A_buffer A_firstPlace A_forcedPlace A_endPlace A_wordsToFailure A_opened  _ _ hw) (cwV 0 hbg g_RX0_34 rfl rfl rfl (by decide +kernel) ⟨Nat.le_of_ble_eq_true rfl, Nat.le_of_ble_eq_true rfl⟩) ⟨pcX_A_b _ _ _ _ _ _ _ _ _ _ _ _ _ _ _ _, va_recv hK hP (ci := 0) (q0 := 0) rfl rfl, fun U hU hW => ⟨rfl, by rw [hU], by rw [hU]; exact hP, va_K.moved hW.alike hK, hD.weaken (fun _ _ _ _ => trivial), XW.go hXW0 hS hFc hU hW⟩⟩ rfl rfl hl.1 rfl (lv_room (Nat.le_of_ble_eq_true rfl)) dX0_before_1 ⟨Nat.le_of_ble_eq_true rfl, Nat.le_of_ble_eq_true rfl⟩) hS (fun q _ h => hFc q h) hFc (fun q _ h => hFc q h) (fun E9 ce9 q9 u9 t9 H_1 locs ht hvm hpx hBX hz1 hk1 hS hce hcv hcl => ?_) (fun u_1 t_1 H_1 locs ht hvm hw hB hz1 hk1 hS => ?_)
  · obtain ⟨E8, A_ring_x1, A_buffer_x1, A_firstPlace_x1, A_forcedPlace_x1, A_endPlace_x1, A_wordsToFailure_x1, A_opened_x1⟩ := u9
    obtain ⟨rfl, hP1, hK1, hD1⟩ := hBX
    rw [ht] at hP1
    have hP : va_P (dC, dI) vwCl [(qA, .inr (0, [.ref qA_ring, .ref qA_buffer, .int A_firstPlace_x1, .int A_forcedPlace_x1, .int A_endPlace_x1, .int A_wordsToFailure_x1, .int A_opened_x1])), (qA_ring, .inl (cA_ring, 65536, .inl A_ring_x1)), (qA_buffer, .inl (cA_buffer, 200, .inl A_buffer_x1))] H_1 := hP1
    have hD : va_D A [(qA, .inr (0, [.ref qA_ring, .ref qA_buffer, .int A_firstPlace_x1, .int A_forcedPlace_x1, .int A_endPlace_x1, .int A_wordsToFailure_x1, .int A_opened_x1])), (qA_ring, .inl (cA_ring, 65536, .inl A_ring_x1)), (qA_buffer, .inl (cA_buffer, 200, .inl A_buffer_x1))] := hD1.weaken (fun _ _ _ h => hFc _ h)
    subst hQQ
    exact vx_out (fun x hx => (hEx x hx).elim) hlocks hce hcv hcl (fun t ht ha => ⟨(E9, (A_ring_x1, A_buffer_x1, A_firstPlace_x1, A_forcedPlace_x1, A_endPlace_x1, A_wordsToFailure_x1, A_opened_x1)), hpx, ⟨rfl, by rw [ht]; exact hP, va_K.moved ha hK, hD⟩, hS.F ht⟩) hS.2.2 (Nat.le_of_ble_eq_true rfl) (Nat.le_of_ble_eq_true rfl)
  · obtain ⟨A_ring_1, A_buffer_1, A_firstPlace_1, A_forcedPlace_1, A_endPlace_1, A_wordsToFailure_1, A_opened_1⟩ := u_1
    obtain ⟨hP1, hK1, hD1⟩ := hB
    rw [ht] at hP1
    try dsimp only at hw
    have hP : va_P (dC, dI) vwCl [(qA, .inr (0, [.ref qA_ring, .ref qA_buffer, .int A_firstPlace_1, .int A_forcedPlace_1, .int A_endPlace_1, .int A_wordsToFailure_1, .int A_opened_1])), (qA_ring, .inl (cA_ring, 65536, .inl A_ring_1)), (qA_buffer, .inl (cA_buffer, 200, .inl A_buffer_1))] H_1 := hP1
    have hD : va_D A [(qA, .inr (0, [.ref qA_ring, .ref qA_buffer, .int A_firstPlace_1, .int A_forcedPlace_1, .int A_endPlace_1, .int A_wordsToFailure_1, .int A_opened_1])), (qA_ring, .inl (cA_ring, 65536, .inl A_ring_1)), (qA_buffer, .inl (cA_buffer, 200, .inl A_buffer_1))] := hD1.weaken (fun _ _ _ h => hFc _ h)
    refine W.widen (k := 1) (n := 6) (Nat.le_of_ble_eq_true rfl) (Nat.le_of_ble_eq_true rfl) ?_
    refine lv_aload_n hx hb dX0_before_4 rfl (lv_at hl 0 rfl) ?_
    refine lv_iload_n hx hb dX0_before_5 rfl (lv_at hl 1 rfl) ?_
    have hFc := va_free (wc := [(qA, .inr (0, [.ref qA_ring, .ref qA_buffer, .int A_firstPlace_1, .int A_forcedPlace_1, .int A_endPlace_1, .int A_wordsToFailure_1, .int A_opened_1])), (qA_ring, .inl (cA_ring, 65536, .inl A_ring_1)), (qA_buffer, .inl (cA_buffer, 200, .inl A_buffer_1))]) hD hS hA [0, 1, 2] rfl
    refine vx_callv (vx_runV (As := [.int x1]) (rest := []) ⟨hx, hb, hml, hown, hbg⟩ (met_X0_requireRecord l hl9 dC dI qA qA_ring qA_buffer cA_ring cA_buffer H_1.size A_ring_1 A_buffer_1 A_firstPlace_1 A_forcedPlace_1 A_endPlace_1 A_wordsToFailure_1 A_opened_1 x1 _ _ hw) (cwV 1 hbg g_RX0_71 rfl rfl rfl (by decide +kernel) ⟨Nat.le_of_ble_eq_true rfl, Nat.le_of_ble_eq_true rfl⟩) ⟨pcX_A_b _ _ _ _ _ _ _ _ _ _ _ _ _ _ _ _, va_recv hK hP (ci := 0) (q0 := 0) rfl rfl, fun U hU hW => ⟨rfl, by rw [hU], by rw [hU]; exact hP, va_K.moved hW.alike hK, hD.weaken (fun _ _ _ _ => trivial), XW.go hXW0 hS hFc hU hW⟩⟩ rfl rfl hl.1 rfl (lv_room (Nat.le_of_ble_eq_true rfl)) dX0_before_6 ⟨Nat.le_of_ble_eq_true rfl, Nat.le_of_ble_eq_true rfl⟩) hS (fun q _ h => hFc q h) hFc (fun q _ h => hFc q h) (fun E9 ce9 q9 u9 t9 H_2 locs ht hvm hpx hBX hz1 hk1 hS hce hcv hcl => ?_) (fun u_2 t_2 H_2 locs ht hvm hw hB hz1 hk1 hS => ?_)
    · obtain ⟨E8, A_ring_x2, A_buffer_x2, A_firstPlace_x2, A_forcedPlace_x2, A_endPlace_x2, A_wordsToFailure_x2, A_opened_x2⟩ := u9
      obtain ⟨rfl, hP1, hK1, hD1⟩ := hBX
      rw [ht] at hP1
      have hP : va_P (dC, dI) vwCl [(qA, .inr (0, [.ref qA_ring, .ref qA_buffer, .int A_firstPlace_x2, .int A_forcedPlace_x2, .int A_endPlace_x2, .int A_wordsToFailure_x2, .int A_opened_x2])), (qA_ring, .inl (cA_ring, 65536, .inl A_ring_x2)), (qA_buffer, .inl (cA_buffer, 200, .inl A_buffer_x2))] H_2 := hP1
      have hD : va_D A [(qA, .inr (0, [.ref qA_ring, .ref qA_buffer, .int A_firstPlace_x2, .int A_forcedPlace_x2, .int A_endPlace_x2, .int A_wordsToFailure_x2, .int A_opened_x2])), (qA_ring, .inl (cA_ring, 65536, .inl A_ring_x2)), (qA_buffer, .inl (cA_buffer, 200, .inl A_buffer_x2))] := hD1.weaken (fun _ _ _ h => hFc _ h)
      subst hQQ
      exact vx_out (fun x hx => (hEx x hx).elim) hlocks hce hcv hcl (fun t ht ha => ⟨(E9, (A_ring_x2, A_buffer_x2, A_firstPlace_x2, A_forcedPlace_x2, A_endPlace_x2, A_wordsToFailure_x2, A_opened_x2)), hpx, ⟨rfl, by rw [ht]; exact hP, va_K.moved ha hK, hD⟩, hS.F ht⟩) hS.2.2 (Nat.le_of_ble_eq_true rfl) (Nat.le_of_ble_eq_true rfl)
    · obtain ⟨A_ring_2, A_buffer_2, A_firstPlace_2, A_forcedPlace_2, A_endPlace_2, A_wordsToFailure_2, A_opened_2⟩ := u_2
      obtain ⟨hP1, hK1, hD1⟩ := hB
      rw [ht] at hP1
      try dsimp only at hw
      have hP : va_P (dC, dI) vwCl [(qA, .inr (0, [.ref qA_ring, .ref qA_buffer, .int A_firstPlace_2, .int A_forcedPlace_2, .int A_endPlace_2, .int A_wordsToFailure_2, .int A_opened_2])), (qA_ring, .inl (cA_ring, 65536, .inl A_ring_2)), (qA_buffer, .inl (cA_buffer, 200, .inl A_buffer_2))] H_2 := hP1
      have hD : va_D A [(qA, .inr (0, [.ref qA_ring, .ref qA_buffer, .int A_firstPlace_2, .int A_forcedPlace_2, .int A_endPlace_2, .int A_wordsToFailure_2, .int A_opened_2])), (qA_ring, .inl (cA_ring, 65536, .inl A_ring_2)), (qA_buffer, .inl (cA_buffer, 200, .inl A_buffer_2))] := hD1.weaken (fun _ _ _ h => hFc _ h)
      refine W.widen (k := 2) (n := 12) (Nat.le_of_ble_eq_true rfl) (Nat.le_of_ble_eq_true rfl) ?_
      refine lv_aload_n hx hb dX0_before_9 rfl (lv_at hl 0 rfl) ?_
      refine lv_iload_n hx hb dX0_before_10 rfl (lv_at hl 1 rfl) ?_
      refine vp_callSi (W.runV (As := [.int x1]) (rest := []) ⟨hx, hb, hml, hown, hbg⟩ (met_X0_lastRecordBefore l dC dI qA qA_ring qA_buffer cA_ring cA_buffer A_ring_2 A_buffer_2 A_firstPlace_2 A_forcedPlace_2 A_endPlace_2 A_wordsToFailure_2 A_opened_2 x1 _ hw) (cwV 1 hbg g_RX0_88 rfl rfl rfl (by decide +kernel) ⟨Nat.le_of_ble_eq_true rfl, Nat.le_of_ble_eq_true rfl⟩) ⟨pcR_A_b _ _ _ _ _ _ _ _ _ _ _ _ _ _ _ , va_recv hK hP (ci := 0) (q0 := 0) rfl rfl, fun U hU hW => ⟨rfl, by rw [hU]; exact hP, va_K.moved hW.alike hK⟩⟩ rfl rfl hl.1 rfl (lv_room (Nat.le_of_ble_eq_true rfl)) dX0_before_11 ⟨Nat.le_of_ble_eq_true rfl, Nat.le_of_ble_eq_true rfl⟩) (fun r_3 hw => ?_)
      try dsimp only at hw
      subst hQQ
      refine W.widen (k := 2) (n := 12) (Nat.le_of_ble_eq_true rfl) (Nat.le_of_ble_eq_true rfl) ?_
      refine vx_ret ?_
      exact W.iret (v := r_3) hx hb hr (fun t ht hW => ⟨⟨r_3, (A_ring_2, A_buffer_2, A_firstPlace_2, A_forcedPlace_2, A_endPlace_2, A_wordsToFailure_2, A_opened_2), rfl, hw, by rw [ht]; exact hP, va_K.moved hW.alike hK, hD⟩, hS.F ht⟩) hS.2.2 dX0_before_14
def wp_X0_lastOf (post : Int32 → St_A → Prop) (px : String → St_A → Prop) (x1 : Int32) (A_ring : Nat → Int32) (A_buffer : Nat → Int32) (A_firstPlace : Int32) (A_forcedPlace : Int32) (A_endPlace : Int32) (A_wordsToFailure : Int32) (A_opened : Int32) : Prop :=
  wp_X0_requireOpen (fun u_1 => match u_1 with | (A_ring_1, A_buffer_1, A_firstPlace_1, A_forcedPlace_1, A_endPlace_1, A_wordsToFailure_1, A_opened_1) => wp_X0_requireOwner (fun u_2 => match u_2 with | (A_ring_2, A_buffer_2, A_firstPlace_2, A_forcedPlace_2, A_endPlace_2, A_wordsToFailure_2, A_opened_2) => wp_X0_lastRecordOf (fun r_3 => post r_3 (A_ring_2, A_buffer_2, A_firstPlace_2, A_forcedPlace_2, A_endPlace_2, A_wordsToFailure_2, A_opened_2)) x1 A_ring_2 A_buffer_2 A_firstPlace_2 A_forcedPlace_2 A_endPlace_2 A_wordsToFailure_2 A_opened_2) px x1 A_ring_1 A_buffer_1 A_firstPlace_1 A_forcedPlace_1 A_endPlace_1 A_wordsToFailure_1 A_opened_1) px A_ring A_buffer A_firstPlace A_forcedPlace A_endPlace A_wordsToFailure A_opened
set_option maxHeartbeats 4000000 in
set_option maxRecDepth 100000 in
theorem met_X0_lastOf (l : Launch) (hl9 : l.stackTraces = false) (dC : Nat → ClassId) (dI : Nat → Nat → Nat) (qA qA_ring qA_buffer : Nat) (cA_ring cA_buffer : ClassId) (sz : Nat) (A_ring : Nat → Int32) (A_buffer : Nat → Int32) (A_firstPlace : Int32) (A_forcedPlace : Int32) (A_endPlace : Int32) (A_wordsToFailure : Int32) (A_opened : Int32) (x1 : Int32) (post : Int32 → St_A → Prop) (px : String → St_A → Prop) (hw : wp_X0_lastOf post px x1 A_ring A_buffer A_firstPlace A_forcedPlace A_endPlace A_wordsToFailure A_opened) :
    vx_Met l yX0_lastOf wsX0_lastOf ({ frames := 7, cells := 2, slots := 12, locals := 117 } : Room) (pcX_A dC dI qA qA_ring qA_buffer cA_ring cA_buffer sz A_ring A_buffer A_firstPlace A_forcedPlace A_endPlace A_wordsToFailure A_opened [.ref qA, .int x1]) (va_Qi post (at_A dC dI (va_A [(qA, .inr (0, [.ref qA_ring, .ref qA_buffer, .int A_firstPlace, .int A_forcedPlace, .int A_endPlace, .int A_wordsToFailure, .int A_opened])), (qA_ring, .inl (cA_ring, 65536, .inl A_ring)), (qA_buffer, .inl (cA_buffer, 200, .inl A_buffer))] sz) qA qA_ring qA_buffer cA_ring cA_buffer) (va_A [(qA, .inr (0, [.ref qA_ring, .ref qA_buffer, .int A_firstPlace, .int A_forcedPlace, .int A_endPlace, .int A_wordsToFailure, .int A_opened])), (qA_ring, .inl (cA_ring, 65536, .inl A_ring)), (qA_buffer, .inl (cA_buffer, 200, .inl A_buffer))] sz)) (vx_X (fun u => px u.1 u.2) (atx_A dC dI (va_A [(qA, .inr (0, [.ref qA_ring, .ref qA_buffer, .int A_firstPlace, .int A_forcedPlace, .int A_endPlace, .int A_wordsToFailure, .int A_opened])), (qA_ring, .inl (cA_ring, 65536, .inl A_ring)), (qA_buffer, .inl (cA_buffer, 200, .inl A_buffer))] sz) qA qA_ring qA_buffer cA_ring cA_buffer) (va_A [(qA, .inr (0, [.ref qA_ring, .ref qA_buffer, .int A_firstPlace, .int A_forcedPlace, .int A_endPlace, .int A_wordsToFailure, .int A_opened])), (qA_ring, .inl (cA_ring, 65536, .inl A_ring)), (qA_buffer, .inl (cA_buffer, 200, .inl A_buffer))] sz)) 2 12 (va_A [(qA, .inr (0, [.ref qA_ring, .ref qA_buffer, .int A_firstPlace, .int A_forcedPlace, .int A_endPlace, .int A_wordsToFailure, .int A_opened])), (qA_ring, .inl (cA_ring, 65536, .inl A_ring)), (qA_buffer, .inl (cA_buffer, 200, .inl A_buffer))] sz) := by
  refine vx_ofW (cc := cX0_lastOf) (maxL := 2) (ret := (some .int)) (by decide) rfl ?_
  intro p e s m args below meth c s₁ B hml hEx hv
  obtain ⟨hav, hsz, hP, hK, hD0, hXW0⟩ := hv
  have hx := B.exec
  have hb := B.bytes
  have hr := B.returns
  have hts := atoms_spec (ws := wsX0_lastOf) B.pre
  have hbg : ∀ w ∈ bigW, w.before args s = true := fun w h => hts w (List.mem_cons_of_mem _ h)
  have hown : s.vm.findClass RX0 = some m.cls := findClass_of_methodNamed B.named
  have hlocks := B.notSynchronized
  subst hsz
  have hD := hD0.self (sz := s.heap.size)
  generalize hAe : va_A [(qA, .inr (0, [.ref qA_ring, .ref qA_buffer, .int A_firstPlace, .int A_forcedPlace, .int A_endPlace, .int A_wordsToFailure, .int A_opened])), (qA_ring, .inl (cA_ring, 65536, .inl A_ring)), (qA_buffer, .inl (cA_buffer, 200, .inl A_buffer))] s.heap.size = A at hD hXW0 ⊢
  have hA : ∀ q : Nat, s.heap.size ≤ q → A q := fun q h => by rw [← hAe]; exact Or.inr h
  have hS : va_S A s.heap s.heap [] := va_S.rf
  have hP : va_P (dC, dI) vwCl [(qA, .inr (0, [.ref qA_ring, .ref qA_buffer, .int A_firstPlace, .int A_forcedPlace, .int A_endPlace, .int A_wordsToFailure, .int A_opened])), (qA_ring, .inl (cA_ring, 65536, .inl A_ring)), (qA_buffer, .inl (cA_buffer, 200, .inl A_buffer))] s.heap := hP
  generalize hQQ : vx_MQ below (va_Qi post (at_A dC dI A qA qA_ring qA_buffer cA_ring cA_buffer) A) (vx_X (fun u => px u.1 u.2) (atx_A dC dI A qA qA_ring qA_buffer cA_ring cA_buffer) A) args s 2 12 A = QQ
  have hl := lv_entry ([.ref qA, .int x1]) (n := 2) (Nat.le_of_ble_eq_true rfl)
  rw [show entryFrame m args 2 = entryFrame m ([.ref qA, .int x1] : List Value).toArray 2 by rw [hav], lg_entry_eq]
  generalize (lg_sl ([.ref qA, .int x1]) ++ List.replicate (2 - (lg_sl ([.ref qA, .int x1])).length) Slot.unset).toArray = ls at hl ⊢
  have hl : lv_has ls 2 [(0, .ref qA), (1, .int x1)] := hl
  unfold wp_X0_lastOf at hw
  refine lv_aload_n hx hb dX0_lastOf_0 rfl (lv_at hl 0 rfl) ?_
  have hFc := va_free (wc := [(qA, .inr (0, [.ref qA_ring, .ref qA_buffer, .int A_firstPlace, .int A_forcedPlace, .int A_endPlace, .int A_wordsToFailure, .int A_opened])), (qA_ring, .inl (cA_ring, 65536, .inl A_ring)), (qA_buffer, .inl (cA_buffer, 200, .inl A_buffer))]) hD hS hA [0, 1, 2] rfl
  refine vx_callv (vx_runV (As := []) (rest := []) ⟨hx, hb, hml, hown, hbg⟩ (met_X0_requireOpen l hl9 dC dI qA qA_ring qA_buffer cA_ring cA_buffer s.heap.size A_ring A_buffer A_firstPlace A_forcedPlace A_endPlace A_wordsToFailure A_opened  _ _ hw) (cwV 0 hbg g_RX0_34 rfl rfl rfl (by decide +kernel) ⟨Nat.le_of_ble_eq_true rfl, Nat.le_of_ble_eq_true rfl⟩) ⟨pcX_A_b _ _ _ _ _ _ _ _ _ _ _ _ _ _ _ _, va_recv hK hP (ci := 0) (q0 := 0) rfl rfl, fun U hU hW => ⟨rfl, by rw [hU], by rw [hU]; exact hP, va_K.moved hW.alike hK, hD.weaken (fun _ _ _ _ => trivial), XW.go hXW0 hS hFc hU hW⟩⟩ rfl rfl hl.1 rfl (lv_room (Nat.le_of_ble_eq_true rfl)) dX0_lastOf_1 ⟨Nat.le_of_ble_eq_true rfl, Nat.le_of_ble_eq_true rfl⟩) hS (fun q _ h => hFc q h) hFc (fun q _ h => hFc q h) (fun E9 ce9 q9 u9 t9 H_1 locs ht hvm hpx hBX hz1 hk1 hS hce hcv hcl => ?_) (fun u_1 t_1 H_1 locs ht hvm hw hB hz1 hk1 hS => ?_)
  · obtain ⟨E8, A_ring_x1, A_buffer_x1, A_firstPlace_x1, A_forcedPlace_x1, A_endPlace_x1, A_wordsToFailure_x1, A_opened_x1⟩ := u9
    obtain ⟨rfl, hP1, hK1, hD1⟩ := hBX
    rw [ht] at hP1
    have hP : va_P (dC, dI) vwCl [(qA, .inr (0, [.ref qA_ring, .ref qA_buffer, .int A_firstPlace_x1, .int A_forcedPlace_x1, .int A_endPlace_x1, .int A_wordsToFailure_x1, .int A_opened_x1])), (qA_ring, .inl (cA_ring, 65536, .inl A_ring_x1)), (qA_buffer, .inl (cA_buffer, 200, .inl A_buffer_x1))] H_1 := hP1
    have hD : va_D A [(qA, .inr (0, [.ref qA_ring, .ref qA_buffer, .int A_firstPlace_x1, .int A_forcedPlace_x1, .int A_endPlace_x1, .int A_wordsToFailure_x1, .int A_opened_x1])), (qA_ring, .inl (cA_ring, 65536, .inl A_ring_x1)), (qA_buffer, .inl (cA_buffer, 200, .inl A_buffer_x1))] := hD1.weaken (fun _ _ _ h => hFc _ h)
    subst hQQ
    exact vx_out (fun x hx => (hEx x hx).elim) hlocks hce hcv hcl (fun t ht ha => ⟨(E9, (A_ring_x1, A_buffer_x1, A_firstPlace_x1, A_forcedPlace_x1, A_endPlace_x1, A_wordsToFailure_x1, A_opened_x1)), hpx, ⟨rfl, by rw [ht]; exact hP, va_K.moved ha hK, hD⟩, hS.F ht⟩) hS.2.2 (Nat.le_of_ble_eq_true rfl) (Nat.le_of_ble_eq_true rfl)
  · obtain ⟨A_ring_1, A_buffer_1, A_firstPlace_1, A_forcedPlace_1, A_endPlace_1, A_wordsToFailure_1, A_opened_1⟩ := u_1
    obtain ⟨hP1, hK1, hD1⟩ := hB
    rw [ht] at hP1
    try dsimp only at hw
    have hP : va_P (dC, dI) vwCl [(qA, .inr (0, [.ref qA_ring, .ref qA_buffer, .int A_firstPlace_1, .int A_forcedPlace_1, .int A_endPlace_1, .int A_wordsToFailure_1, .int A_opened_1])), (qA_ring, .inl (cA_ring, 65536, .inl A_ring_1)), (qA_buffer, .inl (cA_buffer, 200, .inl A_buffer_1))] H_1 := hP1
    have hD : va_D A [(qA, .inr (0, [.ref qA_ring, .ref qA_buffer, .int A_firstPlace_1, .int A_forcedPlace_1, .int A_endPlace_1, .int A_wordsToFailure_1, .int A_opened_1])), (qA_ring, .inl (cA_ring, 65536, .inl A_ring_1)), (qA_buffer, .inl (cA_buffer, 200, .inl A_buffer_1))] := hD1.weaken (fun _ _ _ h => hFc _ h)
    refine W.widen (k := 1) (n := 6) (Nat.le_of_ble_eq_true rfl) (Nat.le_of_ble_eq_true rfl) ?_
    refine lv_aload_n hx hb dX0_lastOf_4 rfl (lv_at hl 0 rfl) ?_
    refine lv_iload_n hx hb dX0_lastOf_5 rfl (lv_at hl 1 rfl) ?_
    have hFc := va_free (wc := [(qA, .inr (0, [.ref qA_ring, .ref qA_buffer, .int A_firstPlace_1, .int A_forcedPlace_1, .int A_endPlace_1, .int A_wordsToFailure_1, .int A_opened_1])), (qA_ring, .inl (cA_ring, 65536, .inl A_ring_1)), (qA_buffer, .inl (cA_buffer, 200, .inl A_buffer_1))]) hD hS hA [0, 1, 2] rfl
    refine vx_callv (vx_runV (As := [.int x1]) (rest := []) ⟨hx, hb, hml, hown, hbg⟩ (met_X0_requireOwner l hl9 dC dI qA qA_ring qA_buffer cA_ring cA_buffer H_1.size A_ring_1 A_buffer_1 A_firstPlace_1 A_forcedPlace_1 A_endPlace_1 A_wordsToFailure_1 A_opened_1 x1 _ _ hw) (cwV 1 hbg g_RX0_48 rfl rfl rfl (by decide +kernel) ⟨Nat.le_of_ble_eq_true rfl, Nat.le_of_ble_eq_true rfl⟩) ⟨pcX_A_b _ _ _ _ _ _ _ _ _ _ _ _ _ _ _ _, va_recv hK hP (ci := 0) (q0 := 0) rfl rfl, fun U hU hW => ⟨rfl, by rw [hU], by rw [hU]; exact hP, va_K.moved hW.alike hK, hD.weaken (fun _ _ _ _ => trivial), XW.go hXW0 hS hFc hU hW⟩⟩ rfl rfl hl.1 rfl (lv_room (Nat.le_of_ble_eq_true rfl)) dX0_lastOf_6 ⟨Nat.le_of_ble_eq_true rfl, Nat.le_of_ble_eq_true rfl⟩) hS (fun q _ h => hFc q h) hFc (fun q _ h => hFc q h) (fun E9 ce9 q9 u9 t9 H_2 locs ht hvm hpx hBX hz1 hk1 hS hce hcv hcl => ?_) (fun u_2 t_2 H_2 locs ht hvm hw hB hz1 hk1 hS => ?_)
    · obtain ⟨E8, A_ring_x2, A_buffer_x2, A_firstPlace_x2, A_forcedPlace_x2, A_endPlace_x2, A_wordsToFailure_x2, A_opened_x2⟩ := u9
      obtain ⟨rfl, hP1, hK1, hD1⟩ := hBX
      rw [ht] at hP1
      have hP : va_P (dC, dI) vwCl [(qA, .inr (0, [.ref qA_ring, .ref qA_buffer, .int A_firstPlace_x2, .int A_forcedPlace_x2, .int A_endPlace_x2, .int A_wordsToFailure_x2, .int A_opened_x2])), (qA_ring, .inl (cA_ring, 65536, .inl A_ring_x2)), (qA_buffer, .inl (cA_buffer, 200, .inl A_buffer_x2))] H_2 := hP1
      have hD : va_D A [(qA, .inr (0, [.ref qA_ring, .ref qA_buffer, .int A_firstPlace_x2, .int A_forcedPlace_x2, .int A_endPlace_x2, .int A_wordsToFailure_x2, .int A_opened_x2])), (qA_ring, .inl (cA_ring, 65536, .inl A_ring_x2)), (qA_buffer, .inl (cA_buffer, 200, .inl A_buffer_x2))] := hD1.weaken (fun _ _ _ h => hFc _ h)
      subst hQQ
      exact vx_out (fun x hx => (hEx x hx).elim) hlocks hce hcv hcl (fun t ht ha => ⟨(E9, (A_ring_x2, A_buffer_x2, A_firstPlace_x2, A_forcedPlace_x2, A_endPlace_x2, A_wordsToFailure_x2, A_opened_x2)), hpx, ⟨rfl, by rw [ht]; exact hP, va_K.moved ha hK, hD⟩, hS.F ht⟩) hS.2.2 (Nat.le_of_ble_eq_true rfl) (Nat.le_of_ble_eq_true rfl)
    · obtain ⟨A_ring_2, A_buffer_2, A_firstPlace_2, A_forcedPlace_2, A_endPlace_2, A_wordsToFailure_2, A_opened_2⟩ := u_2
      obtain ⟨hP1, hK1, hD1⟩ := hB
      rw [ht] at hP1
      try dsimp only at hw
      have hP : va_P (dC, dI) vwCl [(qA, .inr (0, [.ref qA_ring, .ref qA_buffer, .int A_firstPlace_2, .int A_forcedPlace_2, .int A_endPlace_2, .int A_wordsToFailure_2, .int A_opened_2])), (qA_ring, .inl (cA_ring, 65536, .inl A_ring_2)), (qA_buffer, .inl (cA_buffer, 200, .inl A_buffer_2))] H_2 := hP1
      have hD : va_D A [(qA, .inr (0, [.ref qA_ring, .ref qA_buffer, .int A_firstPlace_2, .int A_forcedPlace_2, .int A_endPlace_2, .int A_wordsToFailure_2, .int A_opened_2])), (qA_ring, .inl (cA_ring, 65536, .inl A_ring_2)), (qA_buffer, .inl (cA_buffer, 200, .inl A_buffer_2))] := hD1.weaken (fun _ _ _ h => hFc _ h)
      refine W.widen (k := 2) (n := 12) (Nat.le_of_ble_eq_true rfl) (Nat.le_of_ble_eq_true rfl) ?_
      refine lv_aload_n hx hb dX0_lastOf_9 rfl (lv_at hl 0 rfl) ?_
      refine lv_iload_n hx hb dX0_lastOf_10 rfl (lv_at hl 1 rfl) ?_
      refine vp_callSi (W.runV (As := [.int x1]) (rest := []) ⟨hx, hb, hml, hown, hbg⟩ (met_X0_lastRecordOf l dC dI qA qA_ring qA_buffer cA_ring cA_buffer A_ring_2 A_buffer_2 A_firstPlace_2 A_forcedPlace_2 A_endPlace_2 A_wordsToFailure_2 A_opened_2 x1 _ hw) (cwV 1 hbg g_RX0_61 rfl rfl rfl (by decide +kernel) ⟨Nat.le_of_ble_eq_true rfl, Nat.le_of_ble_eq_true rfl⟩) ⟨pcR_A_b _ _ _ _ _ _ _ _ _ _ _ _ _ _ _ , va_recv hK hP (ci := 0) (q0 := 0) rfl rfl, fun U hU hW => ⟨rfl, by rw [hU]; exact hP, va_K.moved hW.alike hK⟩⟩ rfl rfl hl.1 rfl (lv_room (Nat.le_of_ble_eq_true rfl)) dX0_lastOf_11 ⟨Nat.le_of_ble_eq_true rfl, Nat.le_of_ble_eq_true rfl⟩) (fun r_3 hw => ?_)
      try dsimp only at hw
      subst hQQ
      refine W.widen (k := 2) (n := 12) (Nat.le_of_ble_eq_true rfl) (Nat.le_of_ble_eq_true rfl) ?_
      refine vx_ret ?_
      exact W.iret (v := r_3) hx hb hr (fun t ht hW => ⟨⟨r_3, (A_ring_2, A_buffer_2, A_firstPlace_2, A_forcedPlace_2, A_endPlace_2, A_wordsToFailure_2, A_opened_2), rfl, hw, by rw [ht]; exact hP, va_K.moved hW.alike hK, hD⟩, hS.F ht⟩) hS.2.2 dX0_lastOf_14
def wp_X0_of (post : Int32 → St_A → Prop) (px : String → St_A → Prop) (x1 : Int32) (x2 : Int32) (A_ring : Nat → Int32) (A_buffer : Nat → Int32) (A_firstPlace : Int32) (A_forcedPlace : Int32) (A_endPlace : Int32) (A_wordsToFailure : Int32) (A_opened : Int32) : Prop :=
  wp_X0_requireOpen (fun u_1 => match u_1 with | (A_ring_1, A_buffer_1, A_firstPlace_1, A_forcedPlace_1, A_endPlace_1, A_wordsToFailure_1, A_opened_1) => wp_X0_requireRecord (fun u_2 => match u_2 with | (A_ring_2, A_buffer_2, A_firstPlace_2, A_forcedPlace_2, A_endPlace_2, A_wordsToFailure_2, A_opened_2) => ((x2 = (0 : Int32) → wp_X0_kindAt (fun r_3 => post r_3 (A_ring_2, A_buffer_2, A_firstPlace_2, A_forcedPlace_2, A_endPlace_2, A_wordsToFailure_2, A_opened_2)) x1 A_ring_2 A_buffer_2 A_firstPlace_2 A_forcedPlace_2 A_endPlace_2 A_wordsToFailure_2 A_opened_2) ∧ (¬ x2 = (0 : Int32) → ((x2 = (1 : Int32) → wp_X0_ownerAt (fun r_4 => post r_4 (A_ring_2, A_buffer_2, A_firstPlace_2, A_forcedPlace_2, A_endPlace_2, A_wordsToFailure_2, A_opened_2)) x1 A_ring_2 A_buffer_2 A_firstPlace_2 A_forcedPlace_2 A_endPlace_2 A_wordsToFailure_2 A_opened_2) ∧ (¬ x2 = (1 : Int32) → ((x2 = (2 : Int32) → wp_X0_wordAt (fun r_5 => post r_5 (A_ring_2, A_buffer_2, A_firstPlace_2, A_forcedPlace_2, A_endPlace_2, A_wordsToFailure_2, A_opened_2)) (x1 + (2 : Int32)) A_ring_2 A_buffer_2 A_firstPlace_2 A_forcedPlace_2 A_endPlace_2 A_wordsToFailure_2 A_opened_2) ∧ (¬ x2 = (2 : Int32) → ((x2 = (3 : Int32) → wp_X0_wordAt (fun r_6 => post r_6 (A_ring_2, A_buffer_2, A_firstPlace_2, A_forcedPlace_2, A_endPlace_2, A_wordsToFailure_2, A_opened_2)) (x1 + (3 : Int32)) A_ring_2 A_buffer_2 A_firstPlace_2 A_forcedPlace_2 A_endPlace_2 A_wordsToFailure_2 A_opened_2) ∧ (¬ x2 = (3 : Int32) → ((x2 = (4 : Int32) → wp_X0_contentWords (fun r_7 => post r_7 (A_ring_2, A_buffer_2, A_firstPlace_2, A_forcedPlace_2, A_endPlace_2, A_wordsToFailure_2, A_opened_2)) x1 A_ring_2 A_buffer_2 A_firstPlace_2 A_forcedPlace_2 A_endPlace_2 A_wordsToFailure_2 A_opened_2) ∧ (¬ x2 = (4 : Int32) → px "java/lang/IndexOutOfBoundsException" (A_ring_2, A_buffer_2, A_firstPlace_2, A_forcedPlace_2, A_endPlace_2, A_wordsToFailure_2, A_opened_2)))))))))))) px x1 A_ring_1 A_buffer_1 A_firstPlace_1 A_forcedPlace_1 A_endPlace_1 A_wordsToFailure_1 A_opened_1) px A_ring A_buffer A_firstPlace A_forcedPlace A_endPlace A_wordsToFailure A_opened
set_option maxHeartbeats 4000000 in
set_option maxRecDepth 100000 in
theorem met_X0_of (l : Launch) (hl9 : l.stackTraces = false) (dC : Nat → ClassId) (dI : Nat → Nat → Nat) (qA qA_ring qA_buffer : Nat) (cA_ring cA_buffer : ClassId) (sz : Nat) (A_ring : Nat → Int32) (A_buffer : Nat → Int32) (A_firstPlace : Int32) (A_forcedPlace : Int32) (A_endPlace : Int32) (A_wordsToFailure : Int32) (A_opened : Int32) (x1 : Int32) (x2 : Int32) (post : Int32 → St_A → Prop) (px : String → St_A → Prop) (hw : wp_X0_of post px x1 x2 A_ring A_buffer A_firstPlace A_forcedPlace A_endPlace A_wordsToFailure A_opened) :
    vx_Met l yX0_of wsX0_of ({ frames := 7, cells := 3, slots := 18, locals := 117 } : Room) (pcX_A dC dI qA qA_ring qA_buffer cA_ring cA_buffer sz A_ring A_buffer A_firstPlace A_forcedPlace A_endPlace A_wordsToFailure A_opened [.ref qA, .int x1, .int x2]) (va_Qi post (at_A dC dI (va_A [(qA, .inr (0, [.ref qA_ring, .ref qA_buffer, .int A_firstPlace, .int A_forcedPlace, .int A_endPlace, .int A_wordsToFailure, .int A_opened])), (qA_ring, .inl (cA_ring, 65536, .inl A_ring)), (qA_buffer, .inl (cA_buffer, 200, .inl A_buffer))] sz) qA qA_ring qA_buffer cA_ring cA_buffer) (va_A [(qA, .inr (0, [.ref qA_ring, .ref qA_buffer, .int A_firstPlace, .int A_forcedPlace, .int A_endPlace, .int A_wordsToFailure, .int A_opened])), (qA_ring, .inl (cA_ring, 65536, .inl A_ring)), (qA_buffer, .inl (cA_buffer, 200, .inl A_buffer))] sz)) (vx_X (fun u => px u.1 u.2) (atx_A dC dI (va_A [(qA, .inr (0, [.ref qA_ring, .ref qA_buffer, .int A_firstPlace, .int A_forcedPlace, .int A_endPlace, .int A_wordsToFailure, .int A_opened])), (qA_ring, .inl (cA_ring, 65536, .inl A_ring)), (qA_buffer, .inl (cA_buffer, 200, .inl A_buffer))] sz) qA qA_ring qA_buffer cA_ring cA_buffer) (va_A [(qA, .inr (0, [.ref qA_ring, .ref qA_buffer, .int A_firstPlace, .int A_forcedPlace, .int A_endPlace, .int A_wordsToFailure, .int A_opened])), (qA_ring, .inl (cA_ring, 65536, .inl A_ring)), (qA_buffer, .inl (cA_buffer, 200, .inl A_buffer))] sz)) 3 18 (va_A [(qA, .inr (0, [.ref qA_ring, .ref qA_buffer, .int A_firstPlace, .int A_forcedPlace, .int A_endPlace, .int A_wordsToFailure, .int A_opened])), (qA_ring, .inl (cA_ring, 65536, .inl A_ring)), (qA_buffer, .inl (cA_buffer, 200, .inl A_buffer))] sz) := by
  refine vx_ofW (cc := cX0_of) (maxL := 3) (ret := (some .int)) (by decide) rfl ?_
  intro p e s m args below meth c s₁ B hml hEx hv
  obtain ⟨hav, hsz, hP, hK, hD0, hXW0⟩ := hv
  have hx := B.exec
  have hb := B.bytes
  have hr := B.returns
  have hts := atoms_spec (ws := wsX0_of) B.pre
  have hbg : ∀ w ∈ bigW, w.before args s = true := fun w h => hts w (List.mem_cons_of_mem _ h)
  have hown : s.vm.findClass RX0 = some m.cls := findClass_of_methodNamed B.named
  have hlocks := B.notSynchronized
  subst hsz
  have hD := hD0.self (sz := s.heap.size)
  generalize hAe : va_A [(qA, .inr (0, [.ref qA_ring, .ref qA_buffer, .int A_firstPlace, .int A_forcedPlace, .int A_endPlace, .int A_wordsToFailure, .int A_opened])), (qA_ring, .inl (cA_ring, 65536, .inl A_ring)), (qA_buffer, .inl (cA_buffer, 200, .inl A_buffer))] s.heap.size = A at hD hXW0 ⊢
  have hA : ∀ q : Nat, s.heap.size ≤ q → A q := fun q h => by rw [← hAe]; exact Or.inr h
  have hS : va_S A s.heap s.heap [] := va_S.rf
  have hP : va_P (dC, dI) vwCl [(qA, .inr (0, [.ref qA_ring, .ref qA_buffer, .int A_firstPlace, .int A_forcedPlace, .int A_endPlace, .int A_wordsToFailure, .int A_opened])), (qA_ring, .inl (cA_ring, 65536, .inl A_ring)), (qA_buffer, .inl (cA_buffer, 200, .inl A_buffer))] s.heap := hP
  generalize hQQ : vx_MQ below (va_Qi post (at_A dC dI A qA qA_ring qA_buffer cA_ring cA_buffer) A) (vx_X (fun u => px u.1 u.2) (atx_A dC dI A qA qA_ring qA_buffer cA_ring cA_buffer) A) args s 3 18 A = QQ
  have hl := lv_entry ([.ref qA, .int x1, .int x2]) (n := 3) (Nat.le_of_ble_eq_true rfl)
  rw [show entryFrame m args 3 = entryFrame m ([.ref qA, .int x1, .int x2] : List Value).toArray 3 by rw [hav], lg_entry_eq]
  generalize (lg_sl ([.ref qA, .int x1, .int x2]) ++ List.replicate (3 - (lg_sl ([.ref qA, .int x1, .int x2])).length) Slot.unset).toArray = ls at hl ⊢
  have hl : lv_has ls 3 [(0, .ref qA), (1, .int x1), (2, .int x2)] := hl
  unfold wp_X0_of at hw
  refine lv_aload_n hx hb dX0_of_0 rfl (lv_at hl 0 rfl) ?_
  have hFc := va_free (wc := [(qA, .inr (0, [.ref qA_ring, .ref qA_buffer, .int A_firstPlace, .int A_forcedPlace, .int A_endPlace, .int A_wordsToFailure, .int A_opened])), (qA_ring, .inl (cA_ring, 65536, .inl A_ring)), (qA_buffer, .inl (cA_buffer, 200, .inl A_buffer))]) hD hS hA [0, 1, 2] rfl
  refine vx_callv (vx_runV (As := []) (rest := []) ⟨hx, hb, hml, hown, hbg⟩ (met_X0_requireOpen l hl9 dC dI qA qA_ring qA_buffer cA_ring cA_buffer s.heap.size A_ring A_buffer A_firstPlace A_forcedPlace A_endPlace A_wordsToFailure A_opened  _ _ hw) (cwV 0 hbg g_RX0_34 rfl rfl rfl (by decide +kernel) ⟨Nat.le_of_ble_eq_true rfl, Nat.le_of_ble_eq_true rfl⟩) ⟨pcX_A_b _ _ _ _ _ _ _ _ _ _ _ _ _ _ _ _, va_recv hK hP (ci := 0) (q0 := 0) rfl rfl, fun U hU hW => ⟨rfl, by rw [hU], by rw [hU]; exact hP, va_K.moved hW.alike hK, hD.weaken (fun _ _ _ _ => trivial), XW.go hXW0 hS hFc hU hW⟩⟩ rfl rfl hl.1 rfl (lv_room (Nat.le_of_ble_eq_true rfl)) dX0_of_1 ⟨Nat.le_of_ble_eq_true rfl, Nat.le_of_ble_eq_true rfl⟩) hS (fun q _ h => hFc q h) hFc (fun q _ h => hFc q h) (fun E9 ce9 q9 u9 t9 H_1 locs ht hvm hpx hBX hz1 hk1 hS hce hcv hcl => ?_) (fun u_1 t_1 H_1 locs ht hvm hw hB hz1 hk1 hS => ?_)
  · obtain ⟨E8, A_ring_x1, A_buffer_x1, A_firstPlace_x1, A_forcedPlace_x1, A_endPlace_x1, A_wordsToFailure_x1, A_opened_x1⟩ := u9
    obtain ⟨rfl, hP1, hK1, hD1⟩ := hBX
    rw [ht] at hP1
    have hP : va_P (dC, dI) vwCl [(qA, .inr (0, [.ref qA_ring, .ref qA_buffer, .int A_firstPlace_x1, .int A_forcedPlace_x1, .int A_endPlace_x1, .int A_wordsToFailure_x1, .int A_opened_x1])), (qA_ring, .inl (cA_ring, 65536, .inl A_ring_x1)), (qA_buffer, .inl (cA_buffer, 200, .inl A_buffer_x1))] H_1 := hP1
    have hD : va_D A [(qA, .inr (0, [.ref qA_ring, .ref qA_buffer, .int A_firstPlace_x1, .int A_forcedPlace_x1, .int A_endPlace_x1, .int A_wordsToFailure_x1, .int A_opened_x1])), (qA_ring, .inl (cA_ring, 65536, .inl A_ring_x1)), (qA_buffer, .inl (cA_buffer, 200, .inl A_buffer_x1))] := hD1.weaken (fun _ _ _ h => hFc _ h)
    subst hQQ
    exact vx_out (fun x hx => (hEx x hx).elim) hlocks hce hcv hcl (fun t ht ha => ⟨(E9, (A_ring_x1, A_buffer_x1, A_firstPlace_x1, A_forcedPlace_x1, A_endPlace_x1, A_wordsToFailure_x1, A_opened_x1)), hpx, ⟨rfl, by rw [ht]; exact hP, va_K.moved ha hK, hD⟩, hS.F ht⟩) hS.2.2 (Nat.le_of_ble_eq_true rfl) (Nat.le_of_ble_eq_true rfl)
  · obtain ⟨A_ring_1, A_buffer_1, A_firstPlace_1, A_forcedPlace_1, A_endPlace_1, A_wordsToFailure_1, A_opened_1⟩ := u_1
    obtain ⟨hP1, hK1, hD1⟩ := hB
    rw [ht] at hP1
    try dsimp only at hw
    have hP : va_P (dC, dI) vwCl [(qA, .inr (0, [.ref qA_ring, .ref qA_buffer, .int A_firstPlace_1, .int A_forcedPlace_1, .int A_endPlace_1, .int A_wordsToFailure_1, .int A_opened_1])), (qA_ring, .inl (cA_ring, 65536, .inl A_ring_1)), (qA_buffer, .inl (cA_buffer, 200, .inl A_buffer_1))] H_1 := hP1
    have hD : va_D A [(qA, .inr (0, [.ref qA_ring, .ref qA_buffer, .int A_firstPlace_1, .int A_forcedPlace_1, .int A_endPlace_1, .int A_wordsToFailure_1, .int A_opened_1])), (qA_ring, .inl (cA_ring, 65536, .inl A_ring_1)), (qA_buffer, .inl (cA_buffer, 200, .inl A_buffer_1))] := hD1.weaken (fun _ _ _ h => hFc _ h)
    refine W.widen (k := 1) (n := 6) (Nat.le_of_ble_eq_true rfl) (Nat.le_of_ble_eq_true rfl) ?_
    refine lv_aload_n hx hb dX0_of_4 rfl (lv_at hl 0 rfl) ?_
    refine lv_iload_n hx hb dX0_of_5 rfl (lv_at hl 1 rfl) ?_
    have hFc := va_free (wc := [(qA, .inr (0, [.ref qA_ring, .ref qA_buffer, .int A_firstPlace_1, .int A_forcedPlace_1, .int A_endPlace_1, .int A_wordsToFailure_1, .int A_opened_1])), (qA_ring, .inl (cA_ring, 65536, .inl A_ring_1)), (qA_buffer, .inl (cA_buffer, 200, .inl A_buffer_1))]) hD hS hA [0, 1, 2] rfl
    refine vx_callv (vx_runV (As := [.int x1]) (rest := []) ⟨hx, hb, hml, hown, hbg⟩ (met_X0_requireRecord l hl9 dC dI qA qA_ring qA_buffer cA_ring cA_buffer H_1.size A_ring_1 A_buffer_1 A_firstPlace_1 A_forcedPlace_1 A_endPlace_1 A_wordsToFailure_1 A_opened_1 x1 _ _ hw) (cwV 1 hbg g_RX0_71 rfl rfl rfl (by decide +kernel) ⟨Nat.le_of_ble_eq_true rfl, Nat.le_of_ble_eq_true rfl⟩) ⟨pcX_A_b _ _ _ _ _ _ _ _ _ _ _ _ _ _ _ _, va_recv hK hP (ci := 0) (q0 := 0) rfl rfl, fun U hU hW => ⟨rfl, by rw [hU], by rw [hU]; exact hP, va_K.moved hW.alike hK, hD.weaken (fun _ _ _ _ => trivial), XW.go hXW0 hS hFc hU hW⟩⟩ rfl rfl hl.1 rfl (lv_room (Nat.le_of_ble_eq_true rfl)) dX0_of_6 ⟨Nat.le_of_ble_eq_true rfl, Nat.le_of_ble_eq_true rfl⟩) hS (fun q _ h => hFc q h) hFc (fun q _ h => hFc q h) (fun E9 ce9 q9 u9 t9 H_2 locs ht hvm hpx hBX hz1 hk1 hS hce hcv hcl => ?_) (fun u_2 t_2 H_2 locs ht hvm hw hB hz1 hk1 hS => ?_)
    · obtain ⟨E8, A_ring_x2, A_buffer_x2, A_firstPlace_x2, A_forcedPlace_x2, A_endPlace_x2, A_wordsToFailure_x2, A_opened_x2⟩ := u9
      obtain ⟨rfl, hP1, hK1, hD1⟩ := hBX
      rw [ht] at hP1
      have hP : va_P (dC, dI) vwCl [(qA, .inr (0, [.ref qA_ring, .ref qA_buffer, .int A_firstPlace_x2, .int A_forcedPlace_x2, .int A_endPlace_x2, .int A_wordsToFailure_x2, .int A_opened_x2])), (qA_ring, .inl (cA_ring, 65536, .inl A_ring_x2)), (qA_buffer, .inl (cA_buffer, 200, .inl A_buffer_x2))] H_2 := hP1
      have hD : va_D A [(qA, .inr (0, [.ref qA_ring, .ref qA_buffer, .int A_firstPlace_x2, .int A_forcedPlace_x2, .int A_endPlace_x2, .int A_wordsToFailure_x2, .int A_opened_x2])), (qA_ring, .inl (cA_ring, 65536, .inl A_ring_x2)), (qA_buffer, .inl (cA_buffer, 200, .inl A_buffer_x2))] := hD1.weaken (fun _ _ _ h => hFc _ h)
      subst hQQ
      exact vx_out (fun x hx => (hEx x hx).elim) hlocks hce hcv hcl (fun t ht ha => ⟨(E9, (A_ring_x2, A_buffer_x2, A_firstPlace_x2, A_forcedPlace_x2, A_endPlace_x2, A_wordsToFailure_x2, A_opened_x2)), hpx, ⟨rfl, by rw [ht]; exact hP, va_K.moved ha hK, hD⟩, hS.F ht⟩) hS.2.2 (Nat.le_of_ble_eq_true rfl) (Nat.le_of_ble_eq_true rfl)
    · obtain ⟨A_ring_2, A_buffer_2, A_firstPlace_2, A_forcedPlace_2, A_endPlace_2, A_wordsToFailure_2, A_opened_2⟩ := u_2
      obtain ⟨hP1, hK1, hD1⟩ := hB
      rw [ht] at hP1
      try dsimp only at hw
      have hP : va_P (dC, dI) vwCl [(qA, .inr (0, [.ref qA_ring, .ref qA_buffer, .int A_firstPlace_2, .int A_forcedPlace_2, .int A_endPlace_2, .int A_wordsToFailure_2, .int A_opened_2])), (qA_ring, .inl (cA_ring, 65536, .inl A_ring_2)), (qA_buffer, .inl (cA_buffer, 200, .inl A_buffer_2))] H_2 := hP1
      have hD : va_D A [(qA, .inr (0, [.ref qA_ring, .ref qA_buffer, .int A_firstPlace_2, .int A_forcedPlace_2, .int A_endPlace_2, .int A_wordsToFailure_2, .int A_opened_2])), (qA_ring, .inl (cA_ring, 65536, .inl A_ring_2)), (qA_buffer, .inl (cA_buffer, 200, .inl A_buffer_2))] := hD1.weaken (fun _ _ _ h => hFc _ h)
      refine W.widen (k := 2) (n := 12) (Nat.le_of_ble_eq_true rfl) (Nat.le_of_ble_eq_true rfl) ?_
      refine lv_iload_n hx hb dX0_of_9 rfl (lv_at hl 2 rfl) ?_
      rcases Classical.em (x2 = (0 : Int32)) with c9_0 | c9_0
      · have hw := hw.1 c9_0
        refine lv_tableIn (tgt := 44) (off := 34) hx hb dX0_of_10 (by rw [c9_0]; decide) (by rw [c9_0]; decide) (by rw [c9_0]; rfl) (by decide) ?_
        refine lv_aload_n hx hb dX0_of_44 rfl (lv_at hl 0 rfl) ?_
        refine lv_iload_n hx hb dX0_of_45 rfl (lv_at hl 1 rfl) ?_
        refine vp_callSi (W.runV (As := [.int x1]) (rest := []) ⟨hx, hb, hml, hown, hbg⟩ (met_X0_kindAt l dC dI qA qA_ring qA_buffer cA_ring cA_buffer A_ring_2 A_buffer_2 A_firstPlace_2 A_forcedPlace_2 A_endPlace_2 A_wordsToFailure_2 A_opened_2 x1 _ hw) (cwV 1 hbg g_RX0_91 rfl rfl rfl (by decide +kernel) ⟨Nat.le_of_ble_eq_true rfl, Nat.le_of_ble_eq_true rfl⟩) ⟨pcR_A_b _ _ _ _ _ _ _ _ _ _ _ _ _ _ _ , va_recv hK hP (ci := 0) (q0 := 0) rfl rfl, fun U hU hW => ⟨rfl, by rw [hU]; exact hP, va_K.moved hW.alike hK⟩⟩ rfl rfl hl.1 rfl (lv_room (Nat.le_of_ble_eq_true rfl)) dX0_of_46 ⟨Nat.le_of_ble_eq_true rfl, Nat.le_of_ble_eq_true rfl⟩) (fun r_3 hw => ?_)
        try dsimp only at hw
        subst hQQ
        refine W.widen (k := 3) (n := 18) (Nat.le_of_ble_eq_true rfl) (Nat.le_of_ble_eq_true rfl) ?_
        refine vx_ret ?_
        exact W.iret (v := r_3) hx hb hr (fun t ht hW => ⟨⟨r_3, (A_ring_2, A_buffer_2, A_firstPlace_2, A_forcedPlace_2, A_endPlace_2, A_wordsToFailure_2, A_opened_2), rfl, hw, by rw [ht]; exact hP, va_K.moved hW.alike hK, hD⟩, hS.F ht⟩) hS.2.2 dX0_of_49
      · have hw := hw.2 c9_0
        rcases Classical.em (x2 = (1 : Int32)) with c9_1 | c9_1
        · have hw := hw.1 c9_1
          refine lv_tableIn (tgt := 50) (off := 40) hx hb dX0_of_10 (by rw [c9_1]; decide) (by rw [c9_1]; decide) (by rw [c9_1]; rfl) (by decide) ?_
          refine lv_aload_n hx hb dX0_of_50 rfl (lv_at hl 0 rfl) ?_
          refine lv_iload_n hx hb dX0_of_51 rfl (lv_at hl 1 rfl) ?_
          refine vp_callSi (W.runV (As := [.int x1]) (rest := []) ⟨hx, hb, hml, hown, hbg⟩ (met_X0_ownerAt l dC dI qA qA_ring qA_buffer cA_ring cA_buffer A_ring_2 A_buffer_2 A_firstPlace_2 A_forcedPlace_2 A_endPlace_2 A_wordsToFailure_2 A_opened_2 x1 _ hw) (cwV 1 hbg g_RX0_94 rfl rfl rfl (by decide +kernel) ⟨Nat.le_of_ble_eq_true rfl, Nat.le_of_ble_eq_true rfl⟩) ⟨pcR_A_b _ _ _ _ _ _ _ _ _ _ _ _ _ _ _ , va_recv hK hP (ci := 0) (q0 := 0) rfl rfl, fun U hU hW => ⟨rfl, by rw [hU]; exact hP, va_K.moved hW.alike hK⟩⟩ rfl rfl hl.1 rfl (lv_room (Nat.le_of_ble_eq_true rfl)) dX0_of_52 ⟨Nat.le_of_ble_eq_true rfl, Nat.le_of_ble_eq_true rfl⟩) (fun r_4 hw => ?_)
          try dsimp only at hw
          subst hQQ
          refine W.widen (k := 3) (n := 18) (Nat.le_of_ble_eq_true rfl) (Nat.le_of_ble_eq_true rfl) ?_
          refine vx_ret ?_
          exact W.iret (v := r_4) hx hb hr (fun t ht hW => ⟨⟨r_4, (A_ring_2, A_buffer_2, A_firstPlace_2, A_forcedPlace_2, A_endPlace_2, A_wordsToFailure_2, A_opened_2), rfl, hw, by rw [ht]; exact hP, va_K.moved hW.alike hK, hD⟩, hS.F ht⟩) hS.2.2 dX0_of_55
        · have hw := hw.2 c9_1
          rcases Classical.em (x2 = (2 : Int32)) with c9_2 | c9_2
          · have hw := hw.1 c9_2
            refine lv_tableIn (tgt := 56) (off := 46) hx hb dX0_of_10 (by rw [c9_2]; decide) (by rw [c9_2]; decide) (by rw [c9_2]; rfl) (by decide) ?_
            refine lv_aload_n hx hb dX0_of_56 rfl (lv_at hl 0 rfl) ?_
            refine lv_iload_n hx hb dX0_of_57 rfl (lv_at hl 1 rfl) ?_
            refine lv_iconst (v := (2 : Int32)) hx hb dX0_of_58 (by decide) ?_
            refine lv_iadd hx hb dX0_of_59 ?_
            refine vp_callSi (W.runV (As := [.int (x1 + (2 : Int32))]) (rest := []) ⟨hx, hb, hml, hown, hbg⟩ (met_X0_wordAt l dC dI qA qA_ring qA_buffer cA_ring cA_buffer A_ring_2 A_buffer_2 A_firstPlace_2 A_forcedPlace_2 A_endPlace_2 A_wordsToFailure_2 A_opened_2 (x1 + (2 : Int32)) _ hw) (cwV 1 hbg g_RX0_97 rfl rfl rfl (by decide +kernel) ⟨Nat.le_of_ble_eq_true rfl, Nat.le_of_ble_eq_true rfl⟩) ⟨pcR_A_b _ _ _ _ _ _ _ _ _ _ _ _ _ _ _ , va_recv hK hP (ci := 0) (q0 := 0) rfl rfl, fun U hU hW => ⟨rfl, by rw [hU]; exact hP, va_K.moved hW.alike hK⟩⟩ rfl rfl hl.1 rfl (lv_room (Nat.le_of_ble_eq_true rfl)) dX0_of_60 ⟨Nat.le_of_ble_eq_true rfl, Nat.le_of_ble_eq_true rfl⟩) (fun r_5 hw => ?_)
            try dsimp only at hw
            subst hQQ
            refine W.widen (k := 3) (n := 18) (Nat.le_of_ble_eq_true rfl) (Nat.le_of_ble_eq_true rfl) ?_
            refine vx_ret ?_
            exact W.iret (v := r_5) hx hb hr (fun t ht hW => ⟨⟨r_5, (A_ring_2, A_buffer_2, A_firstPlace_2, A_forcedPlace_2, A_endPlace_2, A_wordsToFailure_2, A_opened_2), rfl, hw, by rw [ht]; exact hP, va_K.moved hW.alike hK, hD⟩, hS.F ht⟩) hS.2.2 dX0_of_63
          · have hw := hw.2 c9_2
            rcases Classical.em (x2 = (3 : Int32)) with c9_3 | c9_3
            · have hw := hw.1 c9_3
              refine lv_tableIn (tgt := 64) (off := 54) hx hb dX0_of_10 (by rw [c9_3]; decide) (by rw [c9_3]; decide) (by rw [c9_3]; rfl) (by decide) ?_
              refine lv_aload_n hx hb dX0_of_64 rfl (lv_at hl 0 rfl) ?_
              refine lv_iload_n hx hb dX0_of_65 rfl (lv_at hl 1 rfl) ?_
              refine lv_iconst (v := (3 : Int32)) hx hb dX0_of_66 (by decide) ?_
              refine lv_iadd hx hb dX0_of_67 ?_
              refine vp_callSi (W.runV (As := [.int (x1 + (3 : Int32))]) (rest := []) ⟨hx, hb, hml, hown, hbg⟩ (met_X0_wordAt l dC dI qA qA_ring qA_buffer cA_ring cA_buffer A_ring_2 A_buffer_2 A_firstPlace_2 A_forcedPlace_2 A_endPlace_2 A_wordsToFailure_2 A_opened_2 (x1 + (3 : Int32)) _ hw) (cwV 1 hbg g_RX0_97 rfl rfl rfl (by decide +kernel) ⟨Nat.le_of_ble_eq_true rfl, Nat.le_of_ble_eq_true rfl⟩) ⟨pcR_A_b _ _ _ _ _ _ _ _ _ _ _ _ _ _ _ , va_recv hK hP (ci := 0) (q0 := 0) rfl rfl, fun U hU hW => ⟨rfl, by rw [hU]; exact hP, va_K.moved hW.alike hK⟩⟩ rfl rfl hl.1 rfl (lv_room (Nat.le_of_ble_eq_true rfl)) dX0_of_68 ⟨Nat.le_of_ble_eq_true rfl, Nat.le_of_ble_eq_true rfl⟩) (fun r_6 hw => ?_)
              try dsimp only at hw
              subst hQQ
              refine W.widen (k := 3) (n := 18) (Nat.le_of_ble_eq_true rfl) (Nat.le_of_ble_eq_true rfl) ?_
              refine vx_ret ?_
              exact W.iret (v := r_6) hx hb hr (fun t ht hW => ⟨⟨r_6, (A_ring_2, A_buffer_2, A_firstPlace_2, A_forcedPlace_2, A_endPlace_2, A_wordsToFailure_2, A_opened_2), rfl, hw, by rw [ht]; exact hP, va_K.moved hW.alike hK, hD⟩, hS.F ht⟩) hS.2.2 dX0_of_71
            · have hw := hw.2 c9_3
              rcases Classical.em (x2 = (4 : Int32)) with c9_4 | c9_4
              · have hw := hw.1 c9_4
                refine lv_tableIn (tgt := 72) (off := 62) hx hb dX0_of_10 (by rw [c9_4]; decide) (by rw [c9_4]; decide) (by rw [c9_4]; rfl) (by decide) ?_
                refine lv_aload_n hx hb dX0_of_72 rfl (lv_at hl 0 rfl) ?_
                refine lv_iload_n hx hb dX0_of_73 rfl (lv_at hl 1 rfl) ?_
                refine vp_callSi (W.runV (As := [.int x1]) (rest := []) ⟨hx, hb, hml, hown, hbg⟩ (met_X0_contentWords l dC dI qA qA_ring qA_buffer cA_ring cA_buffer A_ring_2 A_buffer_2 A_firstPlace_2 A_forcedPlace_2 A_endPlace_2 A_wordsToFailure_2 A_opened_2 x1 _ hw) (cwV 1 hbg g_RX0_100 rfl rfl rfl (by decide +kernel) ⟨Nat.le_of_ble_eq_true rfl, Nat.le_of_ble_eq_true rfl⟩) ⟨pcR_A_b _ _ _ _ _ _ _ _ _ _ _ _ _ _ _ , va_recv hK hP (ci := 0) (q0 := 0) rfl rfl, fun U hU hW => ⟨rfl, by rw [hU]; exact hP, va_K.moved hW.alike hK⟩⟩ rfl rfl hl.1 rfl (lv_room (Nat.le_of_ble_eq_true rfl)) dX0_of_74 ⟨Nat.le_of_ble_eq_true rfl, Nat.le_of_ble_eq_true rfl⟩) (fun r_7 hw => ?_)
                try dsimp only at hw
                subst hQQ
                refine W.widen (k := 3) (n := 18) (Nat.le_of_ble_eq_true rfl) (Nat.le_of_ble_eq_true rfl) ?_
                refine vx_ret ?_
                exact W.iret (v := r_7) hx hb hr (fun t ht hW => ⟨⟨r_7, (A_ring_2, A_buffer_2, A_firstPlace_2, A_forcedPlace_2, A_endPlace_2, A_wordsToFailure_2, A_opened_2), rfl, hw, by rw [ht]; exact hP, va_K.moved hW.alike hK, hD⟩, hS.F ht⟩) hS.2.2 dX0_of_77
              · have hw := hw.2 c9_4
                refine lv_tableOut (tgt := 78) hx hb dX0_of_10 (by have t0 := lv_neT c9_0 (a := 0) (by decide); have t1 := lv_neT c9_1 (a := 1) (by decide); have t2 := lv_neT c9_2 (a := 2) (by decide); have t3 := lv_neT c9_3 (a := 3) (by decide); have t4 := lv_neT c9_4 (a := 4) (by decide); omega) (by decide) ?_
                subst hQQ
                obtain ⟨sa, hsa⟩ := hXW0.2.2.1 (RX0, 103, "what is 0 .. 4") (by decide +kernel)
                exact vx_throwS (own := RX0) (cls := "java/lang/IndexOutOfBoundsException") (names := ["java/lang/RuntimeException", "java/lang/Exception"]) hx hb hl9 hown (by decide +kernel) (by decide +kernel) (hbg _ kw_81) (hbg _ kw_82) hsa (vx_hat (L := vx_atS RX0 41 "java/lang/IndexOutOfBoundsException" ["java/lang/RuntimeException", "java/lang/Exception"]) (B := [.castable "java/lang/IndexOutOfBoundsException" "java/lang/IndexOutOfBoundsException", .declares ⟨"java/lang/RuntimeException", "<init>", "(Ljava/lang/String;)V"⟩, .declares ⟨"java/lang/Exception", "<init>", "(Ljava/lang/String;)V"⟩, .declares ⟨"java/lang/Throwable", "<init>", "(Ljava/lang/String;)V"⟩]) (fun w hw => hbg w (xa_RX0_41 w hw)) (by decide +kernel) (vx_c (va_Nw.use rfl (hXW0.1 "java/lang/IndexOutOfBoundsException" (by decide))) (vx_c (va_Nw.use rfl (hXW0.2.1 "java/lang/RuntimeException" (by decide))) (vx_c (va_Nw.use rfl (hXW0.2.1 "java/lang/Exception" (by decide))) (vx_c (va_Nw.use rfl (hXW0.2.1 "java/lang/Throwable" (by decide))) (vx_n)))))) (by decide +kernel) hXW0.2.2.2.2.1 hXW0.2.2.2.2.2 hS (hl.1.trans hml.symm) dX0_of_78 dX0_of_81 dX0_of_82 dX0_of_84 dX0_of_87 (fun x hx => (hEx x hx).elim) (Nat.le_of_ble_eq_true rfl) (Nat.le_of_ble_eq_true rfl) (Nat.le_of_ble_eq_true rfl) (Nat.le_of_ble_eq_true rfl) hlocks (fun t ha hsz hk => ⟨("java/lang/IndexOutOfBoundsException", (A_ring_2, A_buffer_2, A_firstPlace_2, A_forcedPlace_2, A_endPlace_2, A_wordsToFailure_2, A_opened_2)), hw, ⟨rfl, hP.kept (fun k q hq => hk q.1 (hP k q hq).lt), va_K.moved ha hK, hD⟩, Nat.le_trans hS.1 hsz, fun q h1 h2 => (hk q (Nat.lt_of_lt_of_le h1 hS.1)).trans (hS.2.1 q h1 h2)⟩) hS.2.2 (Nat.le_of_ble_eq_true rfl) (Nat.le_of_ble_eq_true rfl)
def wp_X0_word (post : Int32 → St_A → Prop) (px : String → St_A → Prop) (x1 : Int32) (x2 : Int32) (A_ring : Nat → Int32) (A_buffer : Nat → Int32) (A_firstPlace : Int32) (A_forcedPlace : Int32) (A_endPlace : Int32) (A_wordsToFailure : Int32) (A_opened : Int32) : Prop :=
  wp_X0_requireOpen (fun u_1 => match u_1 with | (A_ring_1, A_buffer_1, A_firstPlace_1, A_forcedPlace_1, A_endPlace_1, A_wordsToFailure_1, A_opened_1) => wp_X0_requireRecord (fun u_2 => match u_2 with | (A_ring_2, A_buffer_2, A_firstPlace_2, A_forcedPlace_2, A_endPlace_2, A_wordsToFailure_2, A_opened_2) => ((x2 < (0 : Int32) → px "java/lang/IndexOutOfBoundsException" (A_ring_2, A_buffer_2, A_firstPlace_2, A_forcedPlace_2, A_endPlace_2, A_wordsToFailure_2, A_opened_2)) ∧ (¬ x2 < (0 : Int32) → wp_X0_contentWords (fun r_3 => ((x2 < r_3 → wp_X0_wordAt (fun r_4 => post r_4 (A_ring_2, A_buffer_2, A_firstPlace_2, A_forcedPlace_2, A_endPlace_2, A_wordsToFailure_2, A_opened_2)) ((x1 + (4 : Int32)) + x2) A_ring_2 A_buffer_2 A_firstPlace_2 A_forcedPlace_2 A_endPlace_2 A_wordsToFailure_2 A_opened_2) ∧ (¬ x2 < r_3 → px "java/lang/IndexOutOfBoundsException" (A_ring_2, A_buffer_2, A_firstPlace_2, A_forcedPlace_2, A_endPlace_2, A_wordsToFailure_2, A_opened_2)))) x1 A_ring_2 A_buffer_2 A_firstPlace_2 A_forcedPlace_2 A_endPlace_2 A_wordsToFailure_2 A_opened_2))) px x1 A_ring_1 A_buffer_1 A_firstPlace_1 A_forcedPlace_1 A_endPlace_1 A_wordsToFailure_1 A_opened_1) px A_ring A_buffer A_firstPlace A_forcedPlace A_endPlace A_wordsToFailure A_opened
set_option maxHeartbeats 4000000 in
set_option maxRecDepth 100000 in
theorem met_X0_word (l : Launch) (hl9 : l.stackTraces = false) (dC : Nat → ClassId) (dI : Nat → Nat → Nat) (qA qA_ring qA_buffer : Nat) (cA_ring cA_buffer : ClassId) (sz : Nat) (A_ring : Nat → Int32) (A_buffer : Nat → Int32) (A_firstPlace : Int32) (A_forcedPlace : Int32) (A_endPlace : Int32) (A_wordsToFailure : Int32) (A_opened : Int32) (x1 : Int32) (x2 : Int32) (post : Int32 → St_A → Prop) (px : String → St_A → Prop) (hw : wp_X0_word post px x1 x2 A_ring A_buffer A_firstPlace A_forcedPlace A_endPlace A_wordsToFailure A_opened) :
    vx_Met l yX0_word wsX0_word ({ frames := 7, cells := 3, slots := 18, locals := 117 } : Room) (pcX_A dC dI qA qA_ring qA_buffer cA_ring cA_buffer sz A_ring A_buffer A_firstPlace A_forcedPlace A_endPlace A_wordsToFailure A_opened [.ref qA, .int x1, .int x2]) (va_Qi post (at_A dC dI (va_A [(qA, .inr (0, [.ref qA_ring, .ref qA_buffer, .int A_firstPlace, .int A_forcedPlace, .int A_endPlace, .int A_wordsToFailure, .int A_opened])), (qA_ring, .inl (cA_ring, 65536, .inl A_ring)), (qA_buffer, .inl (cA_buffer, 200, .inl A_buffer))] sz) qA qA_ring qA_buffer cA_ring cA_buffer) (va_A [(qA, .inr (0, [.ref qA_ring, .ref qA_buffer, .int A_firstPlace, .int A_forcedPlace, .int A_endPlace, .int A_wordsToFailure, .int A_opened])), (qA_ring, .inl (cA_ring, 65536, .inl A_ring)), (qA_buffer, .inl (cA_buffer, 200, .inl A_buffer))] sz)) (vx_X (fun u => px u.1 u.2) (atx_A dC dI (va_A [(qA, .inr (0, [.ref qA_ring, .ref qA_buffer, .int A_firstPlace, .int A_forcedPlace, .int A_endPlace, .int A_wordsToFailure, .int A_opened])), (qA_ring, .inl (cA_ring, 65536, .inl A_ring)), (qA_buffer, .inl (cA_buffer, 200, .inl A_buffer))] sz) qA qA_ring qA_buffer cA_ring cA_buffer) (va_A [(qA, .inr (0, [.ref qA_ring, .ref qA_buffer, .int A_firstPlace, .int A_forcedPlace, .int A_endPlace, .int A_wordsToFailure, .int A_opened])), (qA_ring, .inl (cA_ring, 65536, .inl A_ring)), (qA_buffer, .inl (cA_buffer, 200, .inl A_buffer))] sz)) 3 18 (va_A [(qA, .inr (0, [.ref qA_ring, .ref qA_buffer, .int A_firstPlace, .int A_forcedPlace, .int A_endPlace, .int A_wordsToFailure, .int A_opened])), (qA_ring, .inl (cA_ring, 65536, .inl A_ring)), (qA_buffer, .inl (cA_buffer, 200, .inl A_buffer))] sz) := by
  refine vx_ofW (cc := cX0_word) (maxL := 3) (ret := (some .int)) (by decide) rfl ?_
  intro p e s m args below meth c s₁ B hml hEx hv
  obtain ⟨hav, hsz, hP, hK, hD0, hXW0⟩ := hv
  have hx := B.exec
  have hb := B.bytes
  have hr := B.returns
  have hts := atoms_spec (ws := wsX0_word) B.pre
  have hbg : ∀ w ∈ bigW, w.before args s = true := fun w h => hts w (List.mem_cons_of_mem _ h)
  have hown : s.vm.findClass RX0 = some m.cls := findClass_of_methodNamed B.named
  have hlocks := B.notSynchronized
  subst hsz
  have hD := hD0.self (sz := s.heap.size)
  generalize hAe : va_A [(qA, .inr (0, [.ref qA_ring, .ref qA_buffer, .int A_firstPlace, .int A_forcedPlace, .int A_endPlace, .int A_wordsToFailure, .int A_opened])), (qA_ring, .inl (cA_ring, 65536, .inl A_ring)), (qA_buffer, .inl (cA_buffer, 200, .inl A_buffer))] s.heap.size = A at hD hXW0 ⊢
  have hA : ∀ q : Nat, s.heap.size ≤ q → A q := fun q h => by rw [← hAe]; exact Or.inr h
  have hS : va_S A s.heap s.heap [] := va_S.rf
  have hP : va_P (dC, dI) vwCl [(qA, .inr (0, [.ref qA_ring, .ref qA_buffer, .int A_firstPlace, .int A_forcedPlace, .int A_endPlace, .int A_wordsToFailure, .int A_opened])), (qA_ring, .inl (cA_ring, 65536, .inl A_ring)), (qA_buffer, .inl (cA_buffer, 200, .inl A_buffer))] s.heap := hP
  generalize hQQ : vx_MQ below (va_Qi post (at_A dC dI A qA qA_ring qA_buffer cA_ring cA_buffer) A) (vx_X (fun u => px u.1 u.2) (atx_A dC dI A qA qA_ring qA_buffer cA_ring cA_buffer) A) args s 3 18 A = QQ
  have hl := lv_entry ([.ref qA, .int x1, .int x2]) (n := 3) (Nat.le_of_ble_eq_true rfl)
  rw [show entryFrame m args 3 = entryFrame m ([.ref qA, .int x1, .int x2] : List Value).toArray 3 by rw [hav], lg_entry_eq]
  generalize (lg_sl ([.ref qA, .int x1, .int x2]) ++ List.replicate (3 - (lg_sl ([.ref qA, .int x1, .int x2])).length) Slot.unset).toArray = ls at hl ⊢
  have hl : lv_has ls 3 [(0, .ref qA), (1, .int x1), (2, .int x2)] := hl
  unfold wp_X0_word at hw
  refine lv_aload_n hx hb dX0_word_0 rfl (lv_at hl 0 rfl) ?_
  have hFc := va_free (wc := [(qA, .inr (0, [.ref qA_ring, .ref qA_buffer, .int A_firstPlace, .int A_forcedPlace, .int A_endPlace, .int A_wordsToFailure, .int A_opened])), (qA_ring, .inl (cA_ring, 65536, .inl A_ring)), (qA_buffer, .inl (cA_buffer, 200, .inl A_buffer))]) hD hS hA [0, 1, 2] rfl
  refine vx_callv (vx_runV (As := []) (rest := []) ⟨hx, hb, hml, hown, hbg⟩ (met_X0_requireOpen l hl9 dC dI qA qA_ring qA_buffer cA_ring cA_buffer s.heap.size A_ring A_buffer A_firstPlace A_forcedPlace A_endPlace A_wordsToFailure A_opened  _ _ hw) (cwV 0 hbg g_RX0_34 rfl rfl rfl (by decide +kernel) ⟨Nat.le_of_ble_eq_true rfl, Nat.le_of_ble_eq_true rfl⟩) ⟨pcX_A_b _ _ _ _ _ _ _ _ _ _ _ _ _ _ _ _, va_recv hK hP (ci := 0) (q0 := 0) rfl rfl, fun U hU hW => ⟨rfl, by rw [hU], by rw [hU]; exact hP, va_K.moved hW.alike hK, hD.weaken (fun _ _ _ _ => trivial), XW.go hXW0 hS hFc hU hW⟩⟩ rfl rfl hl.1 rfl (lv_room (Nat.le_of_ble_eq_true rfl)) dX0_word_1 ⟨Nat.le_of_ble_eq_true rfl, Nat.le_of_ble_eq_true rfl⟩) hS (fun q _ h => hFc q h) hFc (fun q _ h => hFc q h) (fun E9 ce9 q9 u9 t9 H_1 locs ht hvm hpx hBX hz1 hk1 hS hce hcv hcl => ?_) (fun u_1 t_1 H_1 locs ht hvm hw hB hz1 hk1 hS => ?_)
  · obtain ⟨E8, A_ring_x1, A_buffer_x1, A_firstPlace_x1, A_forcedPlace_x1, A_endPlace_x1, A_wordsToFailure_x1, A_opened_x1⟩ := u9
    obtain ⟨rfl, hP1, hK1, hD1⟩ := hBX
    rw [ht] at hP1
    have hP : va_P (dC, dI) vwCl [(qA, .inr (0, [.ref qA_ring, .ref qA_buffer, .int A_firstPlace_x1, .int A_forcedPlace_x1, .int A_endPlace_x1, .int A_wordsToFailure_x1, .int A_opened_x1])), (qA_ring, .inl (cA_ring, 65536, .inl A_ring_x1)), (qA_buffer, .inl (cA_buffer, 200, .inl A_buffer_x1))] H_1 := hP1
    have hD : va_D A [(qA, .inr (0, [.ref qA_ring, .ref qA_buffer, .int A_firstPlace_x1, .int A_forcedPlace_x1, .int A_endPlace_x1, .int A_wordsToFailure_x1, .int A_opened_x1])), (qA_ring, .inl (cA_ring, 65536, .inl A_ring_x1)), (qA_buffer, .inl (cA_buffer, 200, .inl A_buffer_x1))] := hD1.weaken (fun _ _ _ h => hFc _ h)
    subst hQQ
    exact vx_out (fun x hx => (hEx x hx).elim) hlocks hce hcv hcl (fun t ht ha => ⟨(E9, (A_ring_x1, A_buffer_x1, A_firstPlace_x1, A_forcedPlace_x1, A_endPlace_x1, A_wordsToFailure_x1, A_opened_x1)), hpx, ⟨rfl, by rw [ht]; exact hP, va_K.moved ha hK, hD⟩, hS.F ht⟩) hS.2.2 (Nat.le_of_ble_eq_true rfl) (Nat.le_of_ble_eq_true rfl)
  · obtain ⟨A_ring_1, A_buffer_1, A_firstPlace_1, A_forcedPlace_1, A_endPlace_1, A_wordsToFailure_1, A_opened_1⟩ := u_1
    obtain ⟨hP1, hK1, hD1⟩ := hB
    rw [ht] at hP1
    try dsimp only at hw
    have hP : va_P (dC, dI) vwCl [(qA, .inr (0, [.ref qA_ring, .ref qA_buffer, .int A_firstPlace_1, .int A_forcedPlace_1, .int A_endPlace_1, .int A_wordsToFailure_1, .int A_opened_1])), (qA_ring, .inl (cA_ring, 65536, .inl A_ring_1)), (qA_buffer, .inl (cA_buffer, 200, .inl A_buffer_1))] H_1 := hP1
    have hD : va_D A [(qA, .inr (0, [.ref qA_ring, .ref qA_buffer, .int A_firstPlace_1, .int A_forcedPlace_1, .int A_endPlace_1, .int A_wordsToFailure_1, .int A_opened_1])), (qA_ring, .inl (cA_ring, 65536, .inl A_ring_1)), (qA_buffer, .inl (cA_buffer, 200, .inl A_buffer_1))] := hD1.weaken (fun _ _ _ h => hFc _ h)
    refine W.widen (k := 1) (n := 6) (Nat.le_of_ble_eq_true rfl) (Nat.le_of_ble_eq_true rfl) ?_
    refine lv_aload_n hx hb dX0_word_4 rfl (lv_at hl 0 rfl) ?_
    refine lv_iload_n hx hb dX0_word_5 rfl (lv_at hl 1 rfl) ?_
    have hFc := va_free (wc := [(qA, .inr (0, [.ref qA_ring, .ref qA_buffer, .int A_firstPlace_1, .int A_forcedPlace_1, .int A_endPlace_1, .int A_wordsToFailure_1, .int A_opened_1])), (qA_ring, .inl (cA_ring, 65536, .inl A_ring_1)), (qA_buffer, .inl (cA_buffer, 200, .inl A_buffer_1))]) hD hS hA [0, 1, 2] rfl
    refine vx_callv (vx_runV (As := [.int x1]) (rest := []) ⟨hx, hb, hml, hown, hbg⟩ (met_X0_requireRecord l hl9 dC dI qA qA_ring qA_buffer cA_ring cA_buffer H_1.size A_ring_1 A_buffer_1 A_firstPlace_1 A_forcedPlace_1 A_endPlace_1 A_wordsToFailure_1 A_opened_1 x1 _ _ hw) (cwV 1 hbg g_RX0_71 rfl rfl rfl (by decide +kernel) ⟨Nat.le_of_ble_eq_true rfl, Nat.le_of_ble_eq_true rfl⟩) ⟨pcX_A_b _ _ _ _ _ _ _ _ _ _ _ _ _ _ _ _, va_recv hK hP (ci := 0) (q0 := 0) rfl rfl, fun U hU hW => ⟨rfl, by rw [hU], by rw [hU]; exact hP, va_K.moved hW.alike hK, hD.weaken (fun _ _ _ _ => trivial), XW.go hXW0 hS hFc hU hW⟩⟩ rfl rfl hl.1 rfl (lv_room (Nat.le_of_ble_eq_true rfl)) dX0_word_6 ⟨Nat.le_of_ble_eq_true rfl, Nat.le_of_ble_eq_true rfl⟩) hS (fun q _ h => hFc q h) hFc (fun q _ h => hFc q h) (fun E9 ce9 q9 u9 t9 H_2 locs ht hvm hpx hBX hz1 hk1 hS hce hcv hcl => ?_) (fun u_2 t_2 H_2 locs ht hvm hw hB hz1 hk1 hS => ?_)
    · obtain ⟨E8, A_ring_x2, A_buffer_x2, A_firstPlace_x2, A_forcedPlace_x2, A_endPlace_x2, A_wordsToFailure_x2, A_opened_x2⟩ := u9
      obtain ⟨rfl, hP1, hK1, hD1⟩ := hBX
      rw [ht] at hP1
      have hP : va_P (dC, dI) vwCl [(qA, .inr (0, [.ref qA_ring, .ref qA_buffer, .int A_firstPlace_x2, .int A_forcedPlace_x2, .int A_endPlace_x2, .int A_wordsToFailure_x2, .int A_opened_x2])), (qA_ring, .inl (cA_ring, 65536, .inl A_ring_x2)), (qA_buffer, .inl (cA_buffer, 200, .inl A_buffer_x2))] H_2 := hP1
      have hD : va_D A [(qA, .inr (0, [.ref qA_ring, .ref qA_buffer, .int A_firstPlace_x2, .int A_forcedPlace_x2, .int A_endPlace_x2, .int A_wordsToFailure_x2, .int A_opened_x2])), (qA_ring, .inl (cA_ring, 65536, .inl A_ring_x2)), (qA_buffer, .inl (cA_buffer, 200, .inl A_buffer_x2))] := hD1.weaken (fun _ _ _ h => hFc _ h)
      subst hQQ
      exact vx_out (fun x hx => (hEx x hx).elim) hlocks hce hcv hcl (fun t ht ha => ⟨(E9, (A_ring_x2, A_buffer_x2, A_firstPlace_x2, A_forcedPlace_x2, A_endPlace_x2, A_wordsToFailure_x2, A_opened_x2)), hpx, ⟨rfl, by rw [ht]; exact hP, va_K.moved ha hK, hD⟩, hS.F ht⟩) hS.2.2 (Nat.le_of_ble_eq_true rfl) (Nat.le_of_ble_eq_true rfl)
    · obtain ⟨A_ring_2, A_buffer_2, A_firstPlace_2, A_forcedPlace_2, A_endPlace_2, A_wordsToFailure_2, A_opened_2⟩ := u_2
      obtain ⟨hP1, hK1, hD1⟩ := hB
      rw [ht] at hP1
      try dsimp only at hw
      have hP : va_P (dC, dI) vwCl [(qA, .inr (0, [.ref qA_ring, .ref qA_buffer, .int A_firstPlace_2, .int A_forcedPlace_2, .int A_endPlace_2, .int A_wordsToFailure_2, .int A_opened_2])), (qA_ring, .inl (cA_ring, 65536, .inl A_ring_2)), (qA_buffer, .inl (cA_buffer, 200, .inl A_buffer_2))] H_2 := hP1
      have hD : va_D A [(qA, .inr (0, [.ref qA_ring, .ref qA_buffer, .int A_firstPlace_2, .int A_forcedPlace_2, .int A_endPlace_2, .int A_wordsToFailure_2, .int A_opened_2])), (qA_ring, .inl (cA_ring, 65536, .inl A_ring_2)), (qA_buffer, .inl (cA_buffer, 200, .inl A_buffer_2))] := hD1.weaken (fun _ _ _ h => hFc _ h)
      refine W.widen (k := 2) (n := 12) (Nat.le_of_ble_eq_true rfl) (Nat.le_of_ble_eq_true rfl) ?_
      refine lv_iload_n hx hb dX0_word_9 rfl (lv_at hl 2 rfl) ?_
      refine lv_if_lt (tgt := 22) hx hb dX0_word_10 (by decide) (fun c9 => ?_) (fun c9 => ?_)
      · have hw := hw.1 c9
        subst hQQ
        obtain ⟨sa, hsa⟩ := hXW0.2.2.1 (RX0, 105, "the record has no such word") (by decide +kernel)
        exact vx_throwS (own := RX0) (cls := "java/lang/IndexOutOfBoundsException") (names := ["java/lang/RuntimeException", "java/lang/Exception"]) hx hb hl9 hown (by decide +kernel) (by decide +kernel) (hbg _ kw_81) (hbg _ kw_82) hsa (vx_hat (L := vx_atS RX0 41 "java/lang/IndexOutOfBoundsException" ["java/lang/RuntimeException", "java/lang/Exception"]) (B := [.castable "java/lang/IndexOutOfBoundsException" "java/lang/IndexOutOfBoundsException", .declares ⟨"java/lang/RuntimeException", "<init>", "(Ljava/lang/String;)V"⟩, .declares ⟨"java/lang/Exception", "<init>", "(Ljava/lang/String;)V"⟩, .declares ⟨"java/lang/Throwable", "<init>", "(Ljava/lang/String;)V"⟩]) (fun w hw => hbg w (xa_RX0_41 w hw)) (by decide +kernel) (vx_c (va_Nw.use rfl (hXW0.1 "java/lang/IndexOutOfBoundsException" (by decide))) (vx_c (va_Nw.use rfl (hXW0.2.1 "java/lang/RuntimeException" (by decide))) (vx_c (va_Nw.use rfl (hXW0.2.1 "java/lang/Exception" (by decide))) (vx_c (va_Nw.use rfl (hXW0.2.1 "java/lang/Throwable" (by decide))) (vx_n)))))) (by decide +kernel) hXW0.2.2.2.2.1 hXW0.2.2.2.2.2 hS (hl.1.trans hml.symm) dX0_word_22 dX0_word_25 dX0_word_26 dX0_word_28 dX0_word_31 (fun x hx => (hEx x hx).elim) (Nat.le_of_ble_eq_true rfl) (Nat.le_of_ble_eq_true rfl) (Nat.le_of_ble_eq_true rfl) (Nat.le_of_ble_eq_true rfl) hlocks (fun t ha hsz hk => ⟨("java/lang/IndexOutOfBoundsException", (A_ring_2, A_buffer_2, A_firstPlace_2, A_forcedPlace_2, A_endPlace_2, A_wordsToFailure_2, A_opened_2)), hw, ⟨rfl, hP.kept (fun k q hq => hk q.1 (hP k q hq).lt), va_K.moved ha hK, hD⟩, Nat.le_trans hS.1 hsz, fun q h1 h2 => (hk q (Nat.lt_of_lt_of_le h1 hS.1)).trans (hS.2.1 q h1 h2)⟩) hS.2.2 (Nat.le_of_ble_eq_true rfl) (Nat.le_of_ble_eq_true rfl)
      · have hw := hw.2 c9
        refine lv_iload_n hx hb dX0_word_13 rfl (lv_at hl 2 rfl) ?_
        refine lv_aload_n hx hb dX0_word_14 rfl (lv_at hl 0 rfl) ?_
        refine lv_iload_n hx hb dX0_word_15 rfl (lv_at hl 1 rfl) ?_
        refine vp_callSi (W.runV (As := [.int x1]) (rest := [.int x2]) ⟨hx, hb, hml, hown, hbg⟩ (met_X0_contentWords l dC dI qA qA_ring qA_buffer cA_ring cA_buffer A_ring_2 A_buffer_2 A_firstPlace_2 A_forcedPlace_2 A_endPlace_2 A_wordsToFailure_2 A_opened_2 x1 _ hw) (cwV 1 hbg g_RX0_100 rfl rfl rfl (by decide +kernel) ⟨Nat.le_of_ble_eq_true rfl, Nat.le_of_ble_eq_true rfl⟩) ⟨pcR_A_b _ _ _ _ _ _ _ _ _ _ _ _ _ _ _ , va_recv hK hP (ci := 0) (q0 := 0) rfl rfl, fun U hU hW => ⟨rfl, by rw [hU]; exact hP, va_K.moved hW.alike hK⟩⟩ rfl rfl hl.1 rfl (lv_room (Nat.le_of_ble_eq_true rfl)) dX0_word_16 ⟨Nat.le_of_ble_eq_true rfl, Nat.le_of_ble_eq_true rfl⟩) (fun r_3 hw => ?_)
        try dsimp only at hw
        refine lv_icmp_lt (tgt := 32) hx hb dX0_word_19 (by decide) (fun c9 => ?_) (fun c9 => ?_)
        · have hw := hw.1 c9
          refine lv_aload_n hx hb dX0_word_32 rfl (lv_at hl 0 rfl) ?_
          refine lv_iload_n hx hb dX0_word_33 rfl (lv_at hl 1 rfl) ?_
          refine lv_iconst (v := (4 : Int32)) hx hb dX0_word_34 (by decide) ?_
          refine lv_iadd hx hb dX0_word_35 ?_
          refine lv_iload_n hx hb dX0_word_36 rfl (lv_at hl 2 rfl) ?_
          refine lv_iadd hx hb dX0_word_37 ?_
          refine vp_callSi (W.runV (As := [.int ((x1 + (4 : Int32)) + x2)]) (rest := []) ⟨hx, hb, hml, hown, hbg⟩ (met_X0_wordAt l dC dI qA qA_ring qA_buffer cA_ring cA_buffer A_ring_2 A_buffer_2 A_firstPlace_2 A_forcedPlace_2 A_endPlace_2 A_wordsToFailure_2 A_opened_2 ((x1 + (4 : Int32)) + x2) _ hw) (cwV 1 hbg g_RX0_97 rfl rfl rfl (by decide +kernel) ⟨Nat.le_of_ble_eq_true rfl, Nat.le_of_ble_eq_true rfl⟩) ⟨pcR_A_b _ _ _ _ _ _ _ _ _ _ _ _ _ _ _ , va_recv hK hP (ci := 0) (q0 := 0) rfl rfl, fun U hU hW => ⟨rfl, by rw [hU]; exact hP, va_K.moved hW.alike hK⟩⟩ rfl rfl hl.1 rfl (lv_room (Nat.le_of_ble_eq_true rfl)) dX0_word_38 ⟨Nat.le_of_ble_eq_true rfl, Nat.le_of_ble_eq_true rfl⟩) (fun r_4 hw => ?_)
          try dsimp only at hw
          subst hQQ
          refine W.widen (k := 3) (n := 18) (Nat.le_of_ble_eq_true rfl) (Nat.le_of_ble_eq_true rfl) ?_
          refine vx_ret ?_
          exact W.iret (v := r_4) hx hb hr (fun t ht hW => ⟨⟨r_4, (A_ring_2, A_buffer_2, A_firstPlace_2, A_forcedPlace_2, A_endPlace_2, A_wordsToFailure_2, A_opened_2), rfl, hw, by rw [ht]; exact hP, va_K.moved hW.alike hK, hD⟩, hS.F ht⟩) hS.2.2 dX0_word_41
        · have hw := hw.2 c9
          subst hQQ
          obtain ⟨sa, hsa⟩ := hXW0.2.2.1 (RX0, 105, "the record has no such word") (by decide +kernel)
          exact vx_throwS (own := RX0) (cls := "java/lang/IndexOutOfBoundsException") (names := ["java/lang/RuntimeException", "java/lang/Exception"]) hx hb hl9 hown (by decide +kernel) (by decide +kernel) (hbg _ kw_81) (hbg _ kw_82) hsa (vx_hat (L := vx_atS RX0 41 "java/lang/IndexOutOfBoundsException" ["java/lang/RuntimeException", "java/lang/Exception"]) (B := [.castable "java/lang/IndexOutOfBoundsException" "java/lang/IndexOutOfBoundsException", .declares ⟨"java/lang/RuntimeException", "<init>", "(Ljava/lang/String;)V"⟩, .declares ⟨"java/lang/Exception", "<init>", "(Ljava/lang/String;)V"⟩, .declares ⟨"java/lang/Throwable", "<init>", "(Ljava/lang/String;)V"⟩]) (fun w hw => hbg w (xa_RX0_41 w hw)) (by decide +kernel) (vx_c (va_Nw.use rfl (hXW0.1 "java/lang/IndexOutOfBoundsException" (by decide))) (vx_c (va_Nw.use rfl (hXW0.2.1 "java/lang/RuntimeException" (by decide))) (vx_c (va_Nw.use rfl (hXW0.2.1 "java/lang/Exception" (by decide))) (vx_c (va_Nw.use rfl (hXW0.2.1 "java/lang/Throwable" (by decide))) (vx_n)))))) (by decide +kernel) hXW0.2.2.2.2.1 hXW0.2.2.2.2.2 hS (hl.1.trans hml.symm) dX0_word_22 dX0_word_25 dX0_word_26 dX0_word_28 dX0_word_31 (fun x hx => (hEx x hx).elim) (Nat.le_of_ble_eq_true rfl) (Nat.le_of_ble_eq_true rfl) (Nat.le_of_ble_eq_true rfl) (Nat.le_of_ble_eq_true rfl) hlocks (fun t ha hsz hk => ⟨("java/lang/IndexOutOfBoundsException", (A_ring_2, A_buffer_2, A_firstPlace_2, A_forcedPlace_2, A_endPlace_2, A_wordsToFailure_2, A_opened_2)), hw, ⟨rfl, hP.kept (fun k q hq => hk q.1 (hP k q hq).lt), va_K.moved ha hK, hD⟩, Nat.le_trans hS.1 hsz, fun q h1 h2 => (hk q (Nat.lt_of_lt_of_le h1 hS.1)).trans (hS.2.1 q h1 h2)⟩) hS.2.2 (Nat.le_of_ble_eq_true rfl) (Nat.le_of_ble_eq_true rfl)
def wp_X0_back (post : Int32 → St_A → Prop) (px : String → St_A → Prop) (x1 : Int32) (x2 : Int32) (x3 : Int32) (A_ring : Nat → Int32) (A_buffer : Nat → Int32) (A_firstPlace : Int32) (A_forcedPlace : Int32) (A_endPlace : Int32) (A_wordsToFailure : Int32) (A_opened : Int32) : Prop :=
  wp_X0_requireOpen (fun u_1 => match u_1 with | (A_ring_1, A_buffer_1, A_firstPlace_1, A_forcedPlace_1, A_endPlace_1, A_wordsToFailure_1, A_opened_1) => wp_X0_requireOwner (fun u_2 => match u_2 with | (A_ring_2, A_buffer_2, A_firstPlace_2, A_forcedPlace_2, A_endPlace_2, A_wordsToFailure_2, A_opened_2) => (((0 : Int32) ≤ x3 → wp_X0_kthOnTheWay (fun r_3 => post r_3 (A_ring_2, A_buffer_2, A_firstPlace_2, A_forcedPlace_2, A_endPlace_2, A_wordsToFailure_2, A_opened_2)) x1 x2 x3 A_ring_2 A_buffer_2 A_firstPlace_2 A_forcedPlace_2 A_endPlace_2 A_wordsToFailure_2 A_opened_2) ∧ (¬ (0 : Int32) ≤ x3 → px "java/lang/IllegalArgumentException" (A_ring_2, A_buffer_2, A_firstPlace_2, A_forcedPlace_2, A_endPlace_2, A_wordsToFailure_2, A_opened_2)))) px x1 A_ring_1 A_buffer_1 A_firstPlace_1 A_forcedPlace_1 A_endPlace_1 A_wordsToFailure_1 A_opened_1) px A_ring A_buffer A_firstPlace A_forcedPlace A_endPlace A_wordsToFailure A_opened
set_option maxHeartbeats 4000000 in
set_option maxRecDepth 100000 in
theorem met_X0_back (l : Launch) (hl9 : l.stackTraces = false) (dC : Nat → ClassId) (dI : Nat → Nat → Nat) (qA qA_ring qA_buffer : Nat) (cA_ring cA_buffer : ClassId) (sz : Nat) (A_ring : Nat → Int32) (A_buffer : Nat → Int32) (A_firstPlace : Int32) (A_forcedPlace : Int32) (A_endPlace : Int32) (A_wordsToFailure : Int32) (A_opened : Int32) (x1 : Int32) (x2 : Int32) (x3 : Int32) (post : Int32 → St_A → Prop) (px : String → St_A → Prop) (hw : wp_X0_back post px x1 x2 x3 A_ring A_buffer A_firstPlace A_forcedPlace A_endPlace A_wordsToFailure A_opened) :
    vx_Met l yX0_back wsX0_back ({ frames := 7, cells := 3, slots := 18, locals := 117 } : Room) (pcX_A dC dI qA qA_ring qA_buffer cA_ring cA_buffer sz A_ring A_buffer A_firstPlace A_forcedPlace A_endPlace A_wordsToFailure A_opened [.ref qA, .int x1, .int x2, .int x3]) (va_Qi post (at_A dC dI (va_A [(qA, .inr (0, [.ref qA_ring, .ref qA_buffer, .int A_firstPlace, .int A_forcedPlace, .int A_endPlace, .int A_wordsToFailure, .int A_opened])), (qA_ring, .inl (cA_ring, 65536, .inl A_ring)), (qA_buffer, .inl (cA_buffer, 200, .inl A_buffer))] sz) qA qA_ring qA_buffer cA_ring cA_buffer) (va_A [(qA, .inr (0, [.ref qA_ring, .ref qA_buffer, .int A_firstPlace, .int A_forcedPlace, .int A_endPlace, .int A_wordsToFailure, .int A_opened])), (qA_ring, .inl (cA_ring, 65536, .inl A_ring)), (qA_buffer, .inl (cA_buffer, 200, .inl A_buffer))] sz)) (vx_X (fun u => px u.1 u.2) (atx_A dC dI (va_A [(qA, .inr (0, [.ref qA_ring, .ref qA_buffer, .int A_firstPlace, .int A_forcedPlace, .int A_endPlace, .int A_wordsToFailure, .int A_opened])), (qA_ring, .inl (cA_ring, 65536, .inl A_ring)), (qA_buffer, .inl (cA_buffer, 200, .inl A_buffer))] sz) qA qA_ring qA_buffer cA_ring cA_buffer) (va_A [(qA, .inr (0, [.ref qA_ring, .ref qA_buffer, .int A_firstPlace, .int A_forcedPlace, .int A_endPlace, .int A_wordsToFailure, .int A_opened])), (qA_ring, .inl (cA_ring, 65536, .inl A_ring)), (qA_buffer, .inl (cA_buffer, 200, .inl A_buffer))] sz)) 3 18 (va_A [(qA, .inr (0, [.ref qA_ring, .ref qA_buffer, .int A_firstPlace, .int A_forcedPlace, .int A_endPlace, .int A_wordsToFailure, .int A_opened])), (qA_ring, .inl (cA_ring, 65536, .inl A_ring)), (qA_buffer, .inl (cA_buffer, 200, .inl A_buffer))] sz) := by
  refine vx_ofW (cc := cX0_back) (maxL := 4) (ret := (some .int)) (by decide) rfl ?_
  intro p e s m args below meth c s₁ B hml hEx hv
  obtain ⟨hav, hsz, hP, hK, hD0, hXW0⟩ := hv
  have hx := B.exec
  have hb := B.bytes
  have hr := B.returns
  have hts := atoms_spec (ws := wsX0_back) B.pre
  have hbg : ∀ w ∈ bigW, w.before args s = true := fun w h => hts w (List.mem_cons_of_mem _ h)
  have hown : s.vm.findClass RX0 = some m.cls := findClass_of_methodNamed B.named
  have hlocks := B.notSynchronized
  subst hsz
  have hD := hD0.self (sz := s.heap.size)
  generalize hAe : va_A [(qA, .inr (0, [.ref qA_ring, .ref qA_buffer, .int A_firstPlace, .int A_forcedPlace, .int A_endPlace, .int A_wordsToFailure, .int A_opened])), (qA_ring, .inl (cA_ring, 65536, .inl A_ring)), (qA_buffer, .inl (cA_buffer, 200, .inl A_buffer))] s.heap.size = A at hD hXW0 ⊢
  have hA : ∀ q : Nat, s.heap.size ≤ q → A q := fun q h => by rw [← hAe]; exact Or.inr h
  have hS : va_S A s.heap s.heap [] := va_S.rf
  have hP : va_P (dC, dI) vwCl [(qA, .inr (0, [.ref qA_ring, .ref qA_buffer, .int A_firstPlace, .int A_forcedPlace, .int A_endPlace, .int A_wordsToFailure, .int A_opened])), (qA_ring, .inl (cA_ring, 65536, .inl A_ring)), (qA_buffer, .inl (cA_buffer, 200, .inl A_buffer))] s.heap := hP
  generalize hQQ : vx_MQ below (va_Qi post (at_A dC dI A qA qA_ring qA_buffer cA_ring cA_buffer) A) (vx_X (fun u => px u.1 u.2) (atx_A dC dI A qA qA_ring qA_buffer cA_ring cA_buffer) A) args s 3 18 A = QQ
  have hl := lv_entry ([.ref qA, .int x1, .int x2, .int x3]) (n := 4) (Nat.le_of_ble_eq_true rfl)
  rw [show entryFrame m args 4 = entryFrame m ([.ref qA, .int x1, .int x2, .int x3] : List Value).toArray 4 by rw [hav], lg_entry_eq]
  generalize (lg_sl ([.ref qA, .int x1, .int x2, .int x3]) ++ List.replicate (4 - (lg_sl ([.ref qA, .int x1, .int x2, .int x3])).length) Slot.unset).toArray = ls at hl ⊢
  have hl : lv_has ls 4 [(0, .ref qA), (1, .int x1), (2, .int x2), (3, .int x3)] := hl
  unfold wp_X0_back at hw
  refine lv_aload_n hx hb dX0_back_0 rfl (lv_at hl 0 rfl) ?_
  have hFc := va_free (wc := [(qA, .inr (0, [.ref qA_ring, .ref qA_buffer, .int A_firstPlace, .int A_forcedPlace, .int A_endPlace, .int A_wordsToFailure, .int A_opened])), (qA_ring, .inl (cA_ring, 65536, .inl A_ring)), (qA_buffer, .inl (cA_buffer, 200, .inl A_buffer))]) hD hS hA [0, 1, 2] rfl
  refine vx_callv (vx_runV (As := []) (rest := []) ⟨hx, hb, hml, hown, hbg⟩ (met_X0_requireOpen l hl9 dC dI qA qA_ring qA_buffer cA_ring cA_buffer s.heap.size A_ring A_buffer A_firstPlace A_forcedPlace A_endPlace A_wordsToFailure A_opened  _ _ hw) (cwV 0 hbg g_RX0_34 rfl rfl rfl (by decide +kernel) ⟨Nat.le_of_ble_eq_true rfl, Nat.le_of_ble_eq_true rfl⟩) ⟨pcX_A_b _ _ _ _ _ _ _ _ _ _ _ _ _ _ _ _, va_recv hK hP (ci := 0) (q0 := 0) rfl rfl, fun U hU hW => ⟨rfl, by rw [hU], by rw [hU]; exact hP, va_K.moved hW.alike hK, hD.weaken (fun _ _ _ _ => trivial), XW.go hXW0 hS hFc hU hW⟩⟩ rfl rfl hl.1 rfl (lv_room (Nat.le_of_ble_eq_true rfl)) dX0_back_1 ⟨Nat.le_of_ble_eq_true rfl, Nat.le_of_ble_eq_true rfl⟩) hS (fun q _ h => hFc q h) hFc (fun q _ h => hFc q h) (fun E9 ce9 q9 u9 t9 H_1 locs ht hvm hpx hBX hz1 hk1 hS hce hcv hcl => ?_) (fun u_1 t_1 H_1 locs ht hvm hw hB hz1 hk1 hS => ?_)
  · obtain ⟨E8, A_ring_x1, A_buffer_x1, A_firstPlace_x1, A_forcedPlace_x1, A_endPlace_x1, A_wordsToFailure_x1, A_opened_x1⟩ := u9
    obtain ⟨rfl, hP1, hK1, hD1⟩ := hBX
    rw [ht] at hP1
    have hP : va_P (dC, dI) vwCl [(qA, .inr (0, [.ref qA_ring, .ref qA_buffer, .int A_firstPlace_x1, .int A_forcedPlace_x1, .int A_endPlace_x1, .int A_wordsToFailure_x1, .int A_opened_x1])), (qA_ring, .inl (cA_ring, 65536, .inl A_ring_x1)), (qA_buffer, .inl (cA_buffer, 200, .inl A_buffer_x1))] H_1 := hP1
    have hD : va_D A [(qA, .inr (0, [.ref qA_ring, .ref qA_buffer, .int A_firstPlace_x1, .int A_forcedPlace_x1, .int A_endPlace_x1, .int A_wordsToFailure_x1, .int A_opened_x1])), (qA_ring, .inl (cA_ring, 65536, .inl A_ring_x1)), (qA_buffer, .inl (cA_buffer, 200, .inl A_buffer_x1))] := hD1.weaken (fun _ _ _ h => hFc _ h)
    subst hQQ
    exact vx_out (fun x hx => (hEx x hx).elim) hlocks hce hcv hcl (fun t ht ha => ⟨(E9, (A_ring_x1, A_buffer_x1, A_firstPlace_x1, A_forcedPlace_x1, A_endPlace_x1, A_wordsToFailure_x1, A_opened_x1)), hpx, ⟨rfl, by rw [ht]; exact hP, va_K.moved ha hK, hD⟩, hS.F ht⟩) hS.2.2 (Nat.le_of_ble_eq_true rfl) (Nat.le_of_ble_eq_true rfl)
  · obtain ⟨A_ring_1, A_buffer_1, A_firstPlace_1, A_forcedPlace_1, A_endPlace_1, A_wordsToFailure_1, A_opened_1⟩ := u_1
    obtain ⟨hP1, hK1, hD1⟩ := hB
    rw [ht] at hP1
    try dsimp only at hw
    have hP : va_P (dC, dI) vwCl [(qA, .inr (0, [.ref qA_ring, .ref qA_buffer, .int A_firstPlace_1, .int A_forcedPlace_1, .int A_endPlace_1, .int A_wordsToFailure_1, .int A_opened_1])), (qA_ring, .inl (cA_ring, 65536, .inl A_ring_1)), (qA_buffer, .inl (cA_buffer, 200, .inl A_buffer_1))] H_1 := hP1
    have hD : va_D A [(qA, .inr (0, [.ref qA_ring, .ref qA_buffer, .int A_firstPlace_1, .int A_forcedPlace_1, .int A_endPlace_1, .int A_wordsToFailure_1, .int A_opened_1])), (qA_ring, .inl (cA_ring, 65536, .inl A_ring_1)), (qA_buffer, .inl (cA_buffer, 200, .inl A_buffer_1))] := hD1.weaken (fun _ _ _ h => hFc _ h)
    refine W.widen (k := 1) (n := 6) (Nat.le_of_ble_eq_true rfl) (Nat.le_of_ble_eq_true rfl) ?_
    refine lv_aload_n hx hb dX0_back_4 rfl (lv_at hl 0 rfl) ?_
    refine lv_iload_n hx hb dX0_back_5 rfl (lv_at hl 1 rfl) ?_
    have hFc := va_free (wc := [(qA, .inr (0, [.ref qA_ring, .ref qA_buffer, .int A_firstPlace_1, .int A_forcedPlace_1, .int A_endPlace_1, .int A_wordsToFailure_1, .int A_opened_1])), (qA_ring, .inl (cA_ring, 65536, .inl A_ring_1)), (qA_buffer, .inl (cA_buffer, 200, .inl A_buffer_1))]) hD hS hA [0, 1, 2] rfl
    refine vx_callv (vx_runV (As := [.int x1]) (rest := []) ⟨hx, hb, hml, hown, hbg⟩ (met_X0_requireOwner l hl9 dC dI qA qA_ring qA_buffer cA_ring cA_buffer H_1.size A_ring_1 A_buffer_1 A_firstPlace_1 A_forcedPlace_1 A_endPlace_1 A_wordsToFailure_1 A_opened_1 x1 _ _ hw) (cwV 1 hbg g_RX0_48 rfl rfl rfl (by decide +kernel) ⟨Nat.le_of_ble_eq_true rfl, Nat.le_of_ble_eq_true rfl⟩) ⟨pcX_A_b _ _ _ _ _ _ _ _ _ _ _ _ _ _ _ _, va_recv hK hP (ci := 0) (q0 := 0) rfl rfl, fun U hU hW => ⟨rfl, by rw [hU], by rw [hU]; exact hP, va_K.moved hW.alike hK, hD.weaken (fun _ _ _ _ => trivial), XW.go hXW0 hS hFc hU hW⟩⟩ rfl rfl hl.1 rfl (lv_room (Nat.le_of_ble_eq_true rfl)) dX0_back_6 ⟨Nat.le_of_ble_eq_true rfl, Nat.le_of_ble_eq_true rfl⟩) hS (fun q _ h => hFc q h) hFc (fun q _ h => hFc q h) (fun E9 ce9 q9 u9 t9 H_2 locs ht hvm hpx hBX hz1 hk1 hS hce hcv hcl => ?_) (fun u_2 t_2 H_2 locs ht hvm hw hB hz1 hk1 hS => ?_)
    · obtain ⟨E8, A_ring_x2, A_buffer_x2, A_firstPlace_x2, A_forcedPlace_x2, A_endPlace_x2, A_wordsToFailure_x2, A_opened_x2⟩ := u9
      obtain ⟨rfl, hP1, hK1, hD1⟩ := hBX
      rw [ht] at hP1
      have hP : va_P (dC, dI) vwCl [(qA, .inr (0, [.ref qA_ring, .ref qA_buffer, .int A_firstPlace_x2, .int A_forcedPlace_x2, .int A_endPlace_x2, .int A_wordsToFailure_x2, .int A_opened_x2])), (qA_ring, .inl (cA_ring, 65536, .inl A_ring_x2)), (qA_buffer, .inl (cA_buffer, 200, .inl A_buffer_x2))] H_2 := hP1
      have hD : va_D A [(qA, .inr (0, [.ref qA_ring, .ref qA_buffer, .int A_firstPlace_x2, .int A_forcedPlace_x2, .int A_endPlace_x2, .int A_wordsToFailure_x2, .int A_opened_x2])), (qA_ring, .inl (cA_ring, 65536, .inl A_ring_x2)), (qA_buffer, .inl (cA_buffer, 200, .inl A_buffer_x2))] := hD1.weaken (fun _ _ _ h => hFc _ h)
      subst hQQ
      exact vx_out (fun x hx => (hEx x hx).elim) hlocks hce hcv hcl (fun t ht ha => ⟨(E9, (A_ring_x2, A_buffer_x2, A_firstPlace_x2, A_forcedPlace_x2, A_endPlace_x2, A_wordsToFailure_x2, A_opened_x2)), hpx, ⟨rfl, by rw [ht]; exact hP, va_K.moved ha hK, hD⟩, hS.F ht⟩) hS.2.2 (Nat.le_of_ble_eq_true rfl) (Nat.le_of_ble_eq_true rfl)
    · obtain ⟨A_ring_2, A_buffer_2, A_firstPlace_2, A_forcedPlace_2, A_endPlace_2, A_wordsToFailure_2, A_opened_2⟩ := u_2
      obtain ⟨hP1, hK1, hD1⟩ := hB
      rw [ht] at hP1
      try dsimp only at hw
      have hP : va_P (dC, dI) vwCl [(qA, .inr (0, [.ref qA_ring, .ref qA_buffer, .int A_firstPlace_2, .int A_forcedPlace_2, .int A_endPlace_2, .int A_wordsToFailure_2, .int A_opened_2])), (qA_ring, .inl (cA_ring, 65536, .inl A_ring_2)), (qA_buffer, .inl (cA_buffer, 200, .inl A_buffer_2))] H_2 := hP1
      have hD : va_D A [(qA, .inr (0, [.ref qA_ring, .ref qA_buffer, .int A_firstPlace_2, .int A_forcedPlace_2, .int A_endPlace_2, .int A_wordsToFailure_2, .int A_opened_2])), (qA_ring, .inl (cA_ring, 65536, .inl A_ring_2)), (qA_buffer, .inl (cA_buffer, 200, .inl A_buffer_2))] := hD1.weaken (fun _ _ _ h => hFc _ h)
      refine W.widen (k := 2) (n := 12) (Nat.le_of_ble_eq_true rfl) (Nat.le_of_ble_eq_true rfl) ?_
      refine lv_iload_n hx hb dX0_back_9 rfl (lv_at hl 3 rfl) ?_
      refine lv_if_ge (tgt := 23) hx hb dX0_back_10 (by decide) (fun c9 => ?_) (fun c9 => ?_)
      · have hw := hw.1 c9
        refine lv_aload_n hx hb dX0_back_23 rfl (lv_at hl 0 rfl) ?_
        refine lv_iload_n hx hb dX0_back_24 rfl (lv_at hl 1 rfl) ?_
        refine lv_iload_n hx hb dX0_back_25 rfl (lv_at hl 2 rfl) ?_
        refine lv_iload_n hx hb dX0_back_26 rfl (lv_at hl 3 rfl) ?_
        refine vp_callSi (W.runV (As := [.int x1, .int x2, .int x3]) (rest := []) ⟨hx, hb, hml, hown, hbg⟩ (met_X0_kthOnTheWay l dC dI qA qA_ring qA_buffer cA_ring cA_buffer A_ring_2 A_buffer_2 A_firstPlace_2 A_forcedPlace_2 A_endPlace_2 A_wordsToFailure_2 A_opened_2 x1 x2 x3 _ hw) (cwV 3 hbg g_RX0_109 rfl rfl rfl (by decide +kernel) ⟨Nat.le_of_ble_eq_true rfl, Nat.le_of_ble_eq_true rfl⟩) ⟨pcR_A_b _ _ _ _ _ _ _ _ _ _ _ _ _ _ _ , va_recv hK hP (ci := 0) (q0 := 0) rfl rfl, fun U hU hW => ⟨rfl, by rw [hU]; exact hP, va_K.moved hW.alike hK⟩⟩ rfl rfl hl.1 rfl (lv_room (Nat.le_of_ble_eq_true rfl)) dX0_back_27 ⟨Nat.le_of_ble_eq_true rfl, Nat.le_of_ble_eq_true rfl⟩) (fun r_3 hw => ?_)
        try dsimp only at hw
        subst hQQ
        refine W.widen (k := 3) (n := 18) (Nat.le_of_ble_eq_true rfl) (Nat.le_of_ble_eq_true rfl) ?_
        refine vx_ret ?_
        exact W.iret (v := r_3) hx hb hr (fun t ht hW => ⟨⟨r_3, (A_ring_2, A_buffer_2, A_firstPlace_2, A_forcedPlace_2, A_endPlace_2, A_wordsToFailure_2, A_opened_2), rfl, hw, by rw [ht]; exact hP, va_K.moved hW.alike hK, hD⟩, hS.F ht⟩) hS.2.2 dX0_back_30
      · have hw := hw.2 c9
        subst hQQ
        obtain ⟨sa, hsa⟩ := hXW0.2.2.1 (RX0, 107, "k is not below 0") (by decide +kernel)
        exact vx_throwS (own := RX0) (cls := "java/lang/IllegalArgumentException") (names := ["java/lang/RuntimeException", "java/lang/Exception"]) hx hb hl9 hown (by decide +kernel) (by decide +kernel) (hbg _ kw_69) (hbg _ kw_70) hsa (vx_hat (L := vx_atS RX0 56 "java/lang/IllegalArgumentException" ["java/lang/RuntimeException", "java/lang/Exception"]) (B := [.castable "java/lang/IllegalArgumentException" "java/lang/IllegalArgumentException", .declares ⟨"java/lang/RuntimeException", "<init>", "(Ljava/lang/String;)V"⟩, .declares ⟨"java/lang/Exception", "<init>", "(Ljava/lang/String;)V"⟩, .declares ⟨"java/lang/Throwable", "<init>", "(Ljava/lang/String;)V"⟩]) (fun w hw => hbg w (xa_RX0_56 w hw)) (by decide +kernel) (vx_c (va_Nw.use rfl (hXW0.1 "java/lang/IllegalArgumentException" (by decide))) (vx_c (va_Nw.use rfl (hXW0.2.1 "java/lang/RuntimeException" (by decide))) (vx_c (va_Nw.use rfl (hXW0.2.1 "java/lang/Exception" (by decide))) (vx_c (va_Nw.use rfl (hXW0.2.1 "java/lang/Throwable" (by decide))) (vx_n)))))) (by decide +kernel) hXW0.2.2.2.2.1 hXW0.2.2.2.2.2 hS (hl.1.trans hml.symm) dX0_back_13 dX0_back_16 dX0_back_17 dX0_back_19 dX0_back_22 (fun x hx => (hEx x hx).elim) (Nat.le_of_ble_eq_true rfl) (Nat.le_of_ble_eq_true rfl) (Nat.le_of_ble_eq_true rfl) (Nat.le_of_ble_eq_true rfl) hlocks (fun t ha hsz hk => ⟨("java/lang/IllegalArgumentException", (A_ring_2, A_buffer_2, A_firstPlace_2, A_forcedPlace_2, A_endPlace_2, A_wordsToFailure_2, A_opened_2)), hw, ⟨rfl, hP.kept (fun k q hq => hk q.1 (hP k q hq).lt), va_K.moved ha hK, hD⟩, Nat.le_trans hS.1 hsz, fun q h1 h2 => (hk q (Nat.lt_of_lt_of_le h1 hS.1)).trans (hS.2.1 q h1 h2)⟩) hS.2.2 (Nat.le_of_ble_eq_true rfl) (Nat.le_of_ble_eq_true rfl)
def wl_X0_count_17 (post : Int32 → St_A → Prop) (px : String → St_A → Prop) : Nat → Int32 → Int32 → Int32 → (Nat → Int32) → (Nat → Int32) → Int32 → Int32 → Int32 → Int32 → Int32 → Prop
  | 0, _, _, _, _, _, _, _, _, _, _ => False
  | n17 + 1, y17_1, y17_2, y17_3, A_ring_L17, A_buffer_L17, A_firstPlace_L17, A_forcedPlace_L17, A_endPlace_L17, A_wordsToFailure_L17, A_opened_L17 =>
    (((13107 : Int32) ≤ y17_3 → post y17_1 (A_ring_L17, A_buffer_L17, A_firstPlace_L17, A_forcedPlace_L17, A_endPlace_L17, A_wordsToFailure_L17, A_opened_L17)) ∧ (¬ (13107 : Int32) ≤ y17_3 → ((y17_2 = (-1 : Int32) → post y17_1 (A_ring_L17, A_buffer_L17, A_firstPlace_L17, A_forcedPlace_L17, A_endPlace_L17, A_wordsToFailure_L17, A_opened_L17)) ∧ (¬ y17_2 = (-1 : Int32) → wp_X0_lastRecordBefore (fun r_1 => wl_X0_count_17 post px n17 (y17_1 + (1 : Int32)) r_1 (y17_3 + (1 : Int32)) A_ring_L17 A_buffer_L17 A_firstPlace_L17 A_forcedPlace_L17 A_endPlace_L17 A_wordsToFailure_L17 A_opened_L17) y17_2 A_ring_L17 A_buffer_L17 A_firstPlace_L17 A_forcedPlace_L17 A_endPlace_L17 A_wordsToFailure_L17 A_opened_L17))))
def wp_X0_count (post : Int32 → St_A → Prop) (px : String → St_A → Prop) (A_ring : Nat → Int32) (A_buffer : Nat → Int32) (A_firstPlace : Int32) (A_forcedPlace : Int32) (A_endPlace : Int32) (A_wordsToFailure : Int32) (A_opened : Int32) : Prop :=
  wp_X0_requireOpen (fun u_2 => match u_2 with | (A_ring_2, A_buffer_2, A_firstPlace_2, A_forcedPlace_2, A_endPlace_2, A_wordsToFailure_2, A_opened_2) => wp_X0_lastRecordBefore (fun r_3 => ∃ n, wl_X0_count_17 post px n (0 : Int32) r_3 (0 : Int32) A_ring_2 A_buffer_2 A_firstPlace_2 A_forcedPlace_2 A_endPlace_2 A_wordsToFailure_2 A_opened_2) A_endPlace_2 A_ring_2 A_buffer_2 A_firstPlace_2 A_forcedPlace_2 A_endPlace_2 A_wordsToFailure_2 A_opened_2) px A_ring A_buffer A_firstPlace A_forcedPlace A_endPlace A_wordsToFailure A_opened
set_option maxHeartbeats 4000000 in
set_option maxRecDepth 100000 in
theorem met_X0_count (l : Launch) (hl9 : l.stackTraces = false) (dC : Nat → ClassId) (dI : Nat → Nat → Nat) (qA qA_ring qA_buffer : Nat) (cA_ring cA_buffer : ClassId) (sz : Nat) (A_ring : Nat → Int32) (A_buffer : Nat → Int32) (A_firstPlace : Int32) (A_forcedPlace : Int32) (A_endPlace : Int32) (A_wordsToFailure : Int32) (A_opened : Int32) (post : Int32 → St_A → Prop) (px : String → St_A → Prop) (hw : wp_X0_count post px A_ring A_buffer A_firstPlace A_forcedPlace A_endPlace A_wordsToFailure A_opened) :
    vx_Met l yX0_count wsX0_count ({ frames := 7, cells := 1, slots := 6, locals := 116 } : Room) (pcX_A dC dI qA qA_ring qA_buffer cA_ring cA_buffer sz A_ring A_buffer A_firstPlace A_forcedPlace A_endPlace A_wordsToFailure A_opened [.ref qA]) (va_Qi post (at_A dC dI (va_A [(qA, .inr (0, [.ref qA_ring, .ref qA_buffer, .int A_firstPlace, .int A_forcedPlace, .int A_endPlace, .int A_wordsToFailure, .int A_opened])), (qA_ring, .inl (cA_ring, 65536, .inl A_ring)), (qA_buffer, .inl (cA_buffer, 200, .inl A_buffer))] sz) qA qA_ring qA_buffer cA_ring cA_buffer) (va_A [(qA, .inr (0, [.ref qA_ring, .ref qA_buffer, .int A_firstPlace, .int A_forcedPlace, .int A_endPlace, .int A_wordsToFailure, .int A_opened])), (qA_ring, .inl (cA_ring, 65536, .inl A_ring)), (qA_buffer, .inl (cA_buffer, 200, .inl A_buffer))] sz)) (vx_X (fun u => px u.1 u.2) (atx_A dC dI (va_A [(qA, .inr (0, [.ref qA_ring, .ref qA_buffer, .int A_firstPlace, .int A_forcedPlace, .int A_endPlace, .int A_wordsToFailure, .int A_opened])), (qA_ring, .inl (cA_ring, 65536, .inl A_ring)), (qA_buffer, .inl (cA_buffer, 200, .inl A_buffer))] sz) qA qA_ring qA_buffer cA_ring cA_buffer) (va_A [(qA, .inr (0, [.ref qA_ring, .ref qA_buffer, .int A_firstPlace, .int A_forcedPlace, .int A_endPlace, .int A_wordsToFailure, .int A_opened])), (qA_ring, .inl (cA_ring, 65536, .inl A_ring)), (qA_buffer, .inl (cA_buffer, 200, .inl A_buffer))] sz)) 1 6 (va_A [(qA, .inr (0, [.ref qA_ring, .ref qA_buffer, .int A_firstPlace, .int A_forcedPlace, .int A_endPlace, .int A_wordsToFailure, .int A_opened])), (qA_ring, .inl (cA_ring, 65536, .inl A_ring)), (qA_buffer, .inl (cA_buffer, 200, .inl A_buffer))] sz) := by
  refine vx_ofW (cc := cX0_count) (maxL := 4) (ret := (some .int)) (by decide) rfl ?_
  intro p e s m args below meth c s₁ B hml hEx hv
  obtain ⟨hav, hsz, hP, hK, hD0, hXW0⟩ := hv
  have hx := B.exec
  have hb := B.bytes
  have hr := B.returns
  have hts := atoms_spec (ws := wsX0_count) B.pre
  have hbg : ∀ w ∈ bigW, w.before args s = true := fun w h => hts w (List.mem_cons_of_mem _ h)
  have hown : s.vm.findClass RX0 = some m.cls := findClass_of_methodNamed B.named
  have hlocks := B.notSynchronized
  subst hsz
  have hD := hD0.self (sz := s.heap.size)
  generalize hAe : va_A [(qA, .inr (0, [.ref qA_ring, .ref qA_buffer, .int A_firstPlace, .int A_forcedPlace, .int A_endPlace, .int A_wordsToFailure, .int A_opened])), (qA_ring, .inl (cA_ring, 65536, .inl A_ring)), (qA_buffer, .inl (cA_buffer, 200, .inl A_buffer))] s.heap.size = A at hD hXW0 ⊢
  have hA : ∀ q : Nat, s.heap.size ≤ q → A q := fun q h => by rw [← hAe]; exact Or.inr h
  have hS : va_S A s.heap s.heap [] := va_S.rf
  have hP : va_P (dC, dI) vwCl [(qA, .inr (0, [.ref qA_ring, .ref qA_buffer, .int A_firstPlace, .int A_forcedPlace, .int A_endPlace, .int A_wordsToFailure, .int A_opened])), (qA_ring, .inl (cA_ring, 65536, .inl A_ring)), (qA_buffer, .inl (cA_buffer, 200, .inl A_buffer))] s.heap := hP
  generalize hQQ : vx_MQ below (va_Qi post (at_A dC dI A qA qA_ring qA_buffer cA_ring cA_buffer) A) (vx_X (fun u => px u.1 u.2) (atx_A dC dI A qA qA_ring qA_buffer cA_ring cA_buffer) A) args s 1 6 A = QQ
  have hl := lv_entry ([.ref qA]) (n := 4) (Nat.le_of_ble_eq_true rfl)
  rw [show entryFrame m args 4 = entryFrame m ([.ref qA] : List Value).toArray 4 by rw [hav], lg_entry_eq]
  generalize (lg_sl ([.ref qA]) ++ List.replicate (4 - (lg_sl ([.ref qA])).length) Slot.unset).toArray = ls at hl ⊢
  have hl : lv_has ls 4 [(0, .ref qA)] := hl
  unfold wp_X0_count at hw
  have hL17 : ∀ (n17 : Nat) (y17_1 : Int32) (y17_2 : Int32) (y17_3 : Int32) (A_ring_L17 : Nat → Int32) (A_buffer_L17 : Nat → Int32) (A_firstPlace_L17 : Int32) (A_forcedPlace_L17 : Int32) (A_endPlace_L17 : Int32) (A_wordsToFailure_L17 : Int32) (A_opened_L17 : Int32), wl_X0_count_17 post px n17 y17_1 y17_2 y17_3 A_ring_L17 A_buffer_L17 A_firstPlace_L17 A_forcedPlace_L17 A_endPlace_L17 A_wordsToFailure_L17 A_opened_L17 → ∀ (H : Heap) (locs : List Loc), va_P (dC, dI) vwCl [(qA, .inr (0, [.ref qA_ring, .ref qA_buffer, .int A_firstPlace_L17, .int A_forcedPlace_L17, .int A_endPlace_L17, .int A_wordsToFailure_L17, .int A_opened_L17])), (qA_ring, .inl (cA_ring, 65536, .inl A_ring_L17)), (qA_buffer, .inl (cA_buffer, 200, .inl A_buffer_L17))] H → va_D A [(qA, .inr (0, [.ref qA_ring, .ref qA_buffer, .int A_firstPlace_L17, .int A_forcedPlace_L17, .int A_endPlace_L17, .int A_wordsToFailure_L17, .int A_opened_L17])), (qA_ring, .inl (cA_ring, 65536, .inl A_ring_L17)), (qA_buffer, .inl (cA_buffer, 200, .inl A_buffer_L17))] → va_S A s.heap H locs → ∀ ls : Array Slot, lv_has ls 4 [(0, .ref qA), (1, .int y17_1), (2, .int y17_2), (3, .int y17_3)] → W p l e (headSpec wsX0_count ({ frames := 7, cells := 1, slots := 6, locals := 116 } : Room)).room s m args below meth c H locs 1 6 QQ (F0 m 17 ls []) := by
    intro n17
    induction n17 with
    | zero => intro y17_1 y17_2 y17_3 A_ring_L17 A_buffer_L17 A_firstPlace_L17 A_forcedPlace_L17 A_endPlace_L17 A_wordsToFailure_L17 A_opened_L17 hw; exact False.elim hw
    | succ n17 ih17 =>
      intro y17_1 y17_2 y17_3 A_ring_L17 A_buffer_L17 A_firstPlace_L17 A_forcedPlace_L17 A_endPlace_L17 A_wordsToFailure_L17 A_opened_L17 hw H locs hP hD hS ls hl
      rw [wl_X0_count_17] at hw
      refine lv_iload_n hx hb dX0_count_17 rfl (lv_at hl 3 rfl) ?_
      refine lv_sipush (v := (13107 : Int32)) hx hb dX0_count_18 (by decide) ?_
      refine lv_icmp_ge (tgt := 44) hx hb dX0_count_21 (by decide) (fun c9 => ?_) (fun c9 => ?_)
      · have hw := hw.1 c9
        refine lv_iload_n hx hb dX0_count_44 rfl (lv_at hl 1 rfl) ?_
        subst hQQ
        refine W.widen (k := 1) (n := 6) (Nat.le_of_ble_eq_true rfl) (Nat.le_of_ble_eq_true rfl) ?_
        refine vx_ret ?_
        exact W.iret (v := y17_1) hx hb hr (fun t ht hW => ⟨⟨y17_1, (A_ring_L17, A_buffer_L17, A_firstPlace_L17, A_forcedPlace_L17, A_endPlace_L17, A_wordsToFailure_L17, A_opened_L17), rfl, hw, by rw [ht]; exact hP, va_K.moved hW.alike hK, hD⟩, hS.F ht⟩) hS.2.2 dX0_count_45
      · have hw := hw.2 c9
        refine lv_iload_n hx hb dX0_count_24 rfl (lv_at hl 2 rfl) ?_
        refine lv_iconst (v := (-1 : Int32)) hx hb dX0_count_25 (by decide) ?_
        refine lv_icmp_eq (tgt := 44) hx hb dX0_count_26 (by decide) (fun c9 => ?_) (fun c9 => ?_)
        · have hw := hw.1 c9
          refine lv_iload_n hx hb dX0_count_44 rfl (lv_at hl 1 rfl) ?_
          subst hQQ
          refine W.widen (k := 1) (n := 6) (Nat.le_of_ble_eq_true rfl) (Nat.le_of_ble_eq_true rfl) ?_
          refine vx_ret ?_
          exact W.iret (v := y17_1) hx hb hr (fun t ht hW => ⟨⟨y17_1, (A_ring_L17, A_buffer_L17, A_firstPlace_L17, A_forcedPlace_L17, A_endPlace_L17, A_wordsToFailure_L17, A_opened_L17), rfl, hw, by rw [ht]; exact hP, va_K.moved hW.alike hK, hD⟩, hS.F ht⟩) hS.2.2 dX0_count_45
        · have hw := hw.2 c9
          refine lv_iinc (v := y17_1 + (1 : Int32)) (lv' := [(1, .int (y17_1 + (1 : Int32))), (0, .ref qA), (2, .int y17_2), (3, .int y17_3)]) hx hb dX0_count_29 hl (k := 1) rfl rfl (by decide) rfl (fun ls hl => ?_)
          refine lv_aload_n hx hb dX0_count_32 rfl (lv_at hl 1 rfl) ?_
          refine lv_iload_n hx hb dX0_count_33 rfl (lv_at hl 2 rfl) ?_
          refine vp_callSi (W.runV (As := [.int y17_2]) (rest := []) ⟨hx, hb, hml, hown, hbg⟩ (met_X0_lastRecordBefore l dC dI qA qA_ring qA_buffer cA_ring cA_buffer A_ring_L17 A_buffer_L17 A_firstPlace_L17 A_forcedPlace_L17 A_endPlace_L17 A_wordsToFailure_L17 A_opened_L17 y17_2 _ hw) (cwV 1 hbg g_RX0_88 rfl rfl rfl (by decide +kernel) ⟨Nat.le_of_ble_eq_true rfl, Nat.le_of_ble_eq_true rfl⟩) ⟨pcR_A_b _ _ _ _ _ _ _ _ _ _ _ _ _ _ _ , va_recv hK hP (ci := 0) (q0 := 0) rfl rfl, fun U hU hW => ⟨rfl, by rw [hU]; exact hP, va_K.moved hW.alike hK⟩⟩ rfl rfl hl.1 rfl (lv_room (Nat.le_of_ble_eq_true rfl)) dX0_count_34 ⟨Nat.le_of_ble_eq_true rfl, Nat.le_of_ble_eq_true rfl⟩) (fun r_1 hw => ?_)
          try dsimp only at hw
          refine lv_istore_n (lv' := [(2, .int r_1), (1, .int (y17_1 + (1 : Int32))), (0, .ref qA), (3, .int y17_3)]) hx hb dX0_count_37 rfl hl (by decide) rfl (fun ls hl => ?_)
          refine lv_iinc (v := y17_3 + (1 : Int32)) (lv' := [(3, .int (y17_3 + (1 : Int32))), (2, .int r_1), (1, .int (y17_1 + (1 : Int32))), (0, .ref qA)]) hx hb dX0_count_38 hl (k := 3) rfl rfl (by decide) rfl (fun ls hl => ?_)
          refine lv_goto (tgt := 17) hx hb dX0_count_41 (by decide) ?_
          exact ih17 (y17_1 + (1 : Int32)) r_1 (y17_3 + (1 : Int32)) A_ring_L17 A_buffer_L17 A_firstPlace_L17 A_forcedPlace_L17 A_endPlace_L17 A_wordsToFailure_L17 A_opened_L17 hw _ _ hP hD hS ls (lv_sub hl [3, 2, 1, 0] rfl)
  refine lv_aload_n hx hb dX0_count_0 rfl (lv_at hl 0 rfl) ?_
  have hFc := va_free (wc := [(qA, .inr (0, [.ref qA_ring, .ref qA_buffer, .int A_firstPlace, .int A_forcedPlace, .int A_endPlace, .int A_wordsToFailure, .int A_opened])), (qA_ring, .inl (cA_ring, 65536, .inl A_ring)), (qA_buffer, .inl (cA_buffer, 200, .inl A_buffer))]) hD hS hA [0, 1, 2] rfl
  refine vx_callv (vx_runV (As := []) (rest := []) ⟨hx, hb, hml, hown, hbg⟩ (met_X0_requireOpen l hl9 dC dI qA qA_ring qA_buffer cA_ring cA_buffer s.heap.size A_ring A_buffer A_firstPlace A_forcedPlace A_endPlace A_wordsToFailure A_opened  _ _ hw) (cwV 0 hbg g_RX0_34 rfl rfl rfl (by decide +kernel) ⟨Nat.le_of_ble_eq_true rfl, Nat.le_of_ble_eq_true rfl⟩) ⟨pcX_A_b _ _ _ _ _ _ _ _ _ _ _ _ _ _ _ _, va_recv hK hP (ci := 0) (q0 := 0) rfl rfl, fun U hU hW => ⟨rfl, by rw [hU], by rw [hU]; exact hP, va_K.moved hW.alike hK, hD.weaken (fun _ _ _ _ => trivial), XW.go hXW0 hS hFc hU hW⟩⟩ rfl rfl hl.1 rfl (lv_room (Nat.le_of_ble_eq_true rfl)) dX0_count_1 ⟨Nat.le_of_ble_eq_true rfl, Nat.le_of_ble_eq_true rfl⟩) hS (fun q _ h => hFc q h) hFc (fun q _ h => hFc q h) (fun E9 ce9 q9 u9 t9 H_2 locs ht hvm hpx hBX hz1 hk1 hS hce hcv hcl => ?_) (fun u_2 t_2 H_2 locs ht hvm hw hB hz1 hk1 hS => ?_)
  · obtain ⟨E8, A_ring_x2, A_buffer_x2, A_firstPlace_x2, A_forcedPlace_x2, A_endPlace_x2, A_wordsToFailure_x2, A_opened_x2⟩ := u9
    obtain ⟨rfl, hP1, hK1, hD1⟩ := hBX
    rw [ht] at hP1
    have hP : va_P (dC, dI) vwCl [(qA, .inr (0, [.ref qA_ring, .ref qA_buffer, .int A_firstPlace_x2, .int A_forcedPlace_x2, .int A_endPlace_x2, .int A_wordsToFailure_x2, .int A_opened_x2])), (qA_ring, .inl (cA_ring, 65536, .inl A_ring_x2)), (qA_buffer, .inl (cA_buffer, 200, .inl A_buffer_x2))] H_2 := hP1
    have hD : va_D A [(qA, .inr (0, [.ref qA_ring, .ref qA_buffer, .int A_firstPlace_x2, .int A_forcedPlace_x2, .int A_endPlace_x2, .int A_wordsToFailure_x2, .int A_opened_x2])), (qA_ring, .inl (cA_ring, 65536, .inl A_ring_x2)), (qA_buffer, .inl (cA_buffer, 200, .inl A_buffer_x2))] := hD1.weaken (fun _ _ _ h => hFc _ h)
    subst hQQ
    exact vx_out (fun x hx => (hEx x hx).elim) hlocks hce hcv hcl (fun t ht ha => ⟨(E9, (A_ring_x2, A_buffer_x2, A_firstPlace_x2, A_forcedPlace_x2, A_endPlace_x2, A_wordsToFailure_x2, A_opened_x2)), hpx, ⟨rfl, by rw [ht]; exact hP, va_K.moved ha hK, hD⟩, hS.F ht⟩) hS.2.2 (Nat.le_of_ble_eq_true rfl) (Nat.le_of_ble_eq_true rfl)
  · obtain ⟨A_ring_2, A_buffer_2, A_firstPlace_2, A_forcedPlace_2, A_endPlace_2, A_wordsToFailure_2, A_opened_2⟩ := u_2
    obtain ⟨hP1, hK1, hD1⟩ := hB
    rw [ht] at hP1
    try dsimp only at hw
    have hP : va_P (dC, dI) vwCl [(qA, .inr (0, [.ref qA_ring, .ref qA_buffer, .int A_firstPlace_2, .int A_forcedPlace_2, .int A_endPlace_2, .int A_wordsToFailure_2, .int A_opened_2])), (qA_ring, .inl (cA_ring, 65536, .inl A_ring_2)), (qA_buffer, .inl (cA_buffer, 200, .inl A_buffer_2))] H_2 := hP1
    have hD : va_D A [(qA, .inr (0, [.ref qA_ring, .ref qA_buffer, .int A_firstPlace_2, .int A_forcedPlace_2, .int A_endPlace_2, .int A_wordsToFailure_2, .int A_opened_2])), (qA_ring, .inl (cA_ring, 65536, .inl A_ring_2)), (qA_buffer, .inl (cA_buffer, 200, .inl A_buffer_2))] := hD1.weaken (fun _ _ _ h => hFc _ h)
    refine W.widen (k := 1) (n := 6) (Nat.le_of_ble_eq_true rfl) (Nat.le_of_ble_eq_true rfl) ?_
    refine lv_iconst (v := (0 : Int32)) hx hb dX0_count_4 (by decide) ?_
    refine lv_istore_n (lv' := [(1, .int (0 : Int32)), (0, .ref qA)]) hx hb dX0_count_5 rfl hl (by decide) rfl (fun ls hl => ?_)
    refine lv_aload_n hx hb dX0_count_6 rfl (lv_at hl 1 rfl) ?_
    refine lv_aload_n hx hb dX0_count_7 rfl (lv_at hl 1 rfl) ?_
    refine va_get (D := (dC, dI)) (ci := 0) (v := .int A_endPlace_2) (C := RX0) (T := TX0) (N := 7) hx hb hbg in_X0 hown hK hP 0 rfl rfl 4 (by decide) (hbg _ kw_12) (fun _ h9 => h9) rfl dX0_count_8 ?_
    refine vp_callSi (W.runV (As := [.int A_endPlace_2]) (rest := []) ⟨hx, hb, hml, hown, hbg⟩ (met_X0_lastRecordBefore l dC dI qA qA_ring qA_buffer cA_ring cA_buffer A_ring_2 A_buffer_2 A_firstPlace_2 A_forcedPlace_2 A_endPlace_2 A_wordsToFailure_2 A_opened_2 A_endPlace_2 _ hw) (cwV 1 hbg g_RX0_88 rfl rfl rfl (by decide +kernel) ⟨Nat.le_of_ble_eq_true rfl, Nat.le_of_ble_eq_true rfl⟩) ⟨pcR_A_b _ _ _ _ _ _ _ _ _ _ _ _ _ _ _ , va_recv hK hP (ci := 0) (q0 := 0) rfl rfl, fun U hU hW => ⟨rfl, by rw [hU]; exact hP, va_K.moved hW.alike hK⟩⟩ rfl rfl hl.1 rfl (lv_room (Nat.le_of_ble_eq_true rfl)) dX0_count_11 ⟨Nat.le_of_ble_eq_true rfl, Nat.le_of_ble_eq_true rfl⟩) (fun r_3 hw => ?_)
    try dsimp only at hw
    refine lv_istore_n (lv' := [(2, .int r_3), (1, .int (0 : Int32)), (0, .ref qA)]) hx hb dX0_count_14 rfl hl (by decide) rfl (fun ls hl => ?_)
    refine lv_iconst (v := (0 : Int32)) hx hb dX0_count_15 (by decide) ?_
    refine lv_istore_n (lv' := [(3, .int (0 : Int32)), (2, .int r_3), (1, .int (0 : Int32)), (0, .ref qA)]) hx hb dX0_count_16 rfl hl (by decide) rfl (fun ls hl => ?_)
    obtain ⟨n9, hw⟩ := hw
    exact hL17 n9 (0 : Int32) r_3 (0 : Int32) A_ring_2 A_buffer_2 A_firstPlace_2 A_forcedPlace_2 A_endPlace_2 A_wordsToFailure_2 A_opened_2 hw _ _ hP hD hS ls (lv_sub hl [3, 2, 1, 0] rfl)
def wp_X0_log (post : Int32 → St_A → Prop) (px : String → St_A → Prop) (x1 : Int32) (A_ring : Nat → Int32) (A_buffer : Nat → Int32) (A_firstPlace : Int32) (A_forcedPlace : Int32) (A_endPlace : Int32) (A_wordsToFailure : Int32) (A_opened : Int32) : Prop :=
  ((x1 = (0 : Int32) → post A_firstPlace (A_ring, A_buffer, A_firstPlace, A_forcedPlace, A_endPlace, A_wordsToFailure, A_opened)) ∧ (¬ x1 = (0 : Int32) → ((x1 = (1 : Int32) → post A_forcedPlace (A_ring, A_buffer, A_firstPlace, A_forcedPlace, A_endPlace, A_wordsToFailure, A_opened)) ∧ (¬ x1 = (1 : Int32) → ((x1 = (2 : Int32) → post A_endPlace (A_ring, A_buffer, A_firstPlace, A_forcedPlace, A_endPlace, A_wordsToFailure, A_opened)) ∧ (¬ x1 = (2 : Int32) → px "java/lang/IndexOutOfBoundsException" (A_ring, A_buffer, A_firstPlace, A_forcedPlace, A_endPlace, A_wordsToFailure, A_opened)))))))
set_option maxHeartbeats 4000000 in
set_option maxRecDepth 100000 in
theorem met_X0_log (l : Launch) (hl9 : l.stackTraces = false) (dC : Nat → ClassId) (dI : Nat → Nat → Nat) (qA qA_ring qA_buffer : Nat) (cA_ring cA_buffer : ClassId) (sz : Nat) (A_ring : Nat → Int32) (A_buffer : Nat → Int32) (A_firstPlace : Int32) (A_forcedPlace : Int32) (A_endPlace : Int32) (A_wordsToFailure : Int32) (A_opened : Int32) (x1 : Int32) (post : Int32 → St_A → Prop) (px : String → St_A → Prop) (hw : wp_X0_log post px x1 A_ring A_buffer A_firstPlace A_forcedPlace A_endPlace A_wordsToFailure A_opened) :
    vx_Met l yX0_log wsX0_log ({ frames := 6, cells := 1, slots := 6, locals := 96 } : Room) (pcX_A dC dI qA qA_ring qA_buffer cA_ring cA_buffer sz A_ring A_buffer A_firstPlace A_forcedPlace A_endPlace A_wordsToFailure A_opened [.ref qA, .int x1]) (va_Qi post (at_A dC dI (va_A [(qA, .inr (0, [.ref qA_ring, .ref qA_buffer, .int A_firstPlace, .int A_forcedPlace, .int A_endPlace, .int A_wordsToFailure, .int A_opened])), (qA_ring, .inl (cA_ring, 65536, .inl A_ring)), (qA_buffer, .inl (cA_buffer, 200, .inl A_buffer))] sz) qA qA_ring qA_buffer cA_ring cA_buffer) (va_A [(qA, .inr (0, [.ref qA_ring, .ref qA_buffer, .int A_firstPlace, .int A_forcedPlace, .int A_endPlace, .int A_wordsToFailure, .int A_opened])), (qA_ring, .inl (cA_ring, 65536, .inl A_ring)), (qA_buffer, .inl (cA_buffer, 200, .inl A_buffer))] sz)) (vx_X (fun u => px u.1 u.2) (atx_A dC dI (va_A [(qA, .inr (0, [.ref qA_ring, .ref qA_buffer, .int A_firstPlace, .int A_forcedPlace, .int A_endPlace, .int A_wordsToFailure, .int A_opened])), (qA_ring, .inl (cA_ring, 65536, .inl A_ring)), (qA_buffer, .inl (cA_buffer, 200, .inl A_buffer))] sz) qA qA_ring qA_buffer cA_ring cA_buffer) (va_A [(qA, .inr (0, [.ref qA_ring, .ref qA_buffer, .int A_firstPlace, .int A_forcedPlace, .int A_endPlace, .int A_wordsToFailure, .int A_opened])), (qA_ring, .inl (cA_ring, 65536, .inl A_ring)), (qA_buffer, .inl (cA_buffer, 200, .inl A_buffer))] sz)) 1 6 (va_A [(qA, .inr (0, [.ref qA_ring, .ref qA_buffer, .int A_firstPlace, .int A_forcedPlace, .int A_endPlace, .int A_wordsToFailure, .int A_opened])), (qA_ring, .inl (cA_ring, 65536, .inl A_ring)), (qA_buffer, .inl (cA_buffer, 200, .inl A_buffer))] sz) := by
  refine vx_ofW (cc := cX0_log) (maxL := 2) (ret := (some .int)) (by decide) rfl ?_
  intro p e s m args below meth c s₁ B hml hEx hv
  obtain ⟨hav, hsz, hP, hK, hD0, hXW0⟩ := hv
  have hx := B.exec
  have hb := B.bytes
  have hr := B.returns
  have hts := atoms_spec (ws := wsX0_log) B.pre
  have hbg : ∀ w ∈ bigW, w.before args s = true := fun w h => hts w (List.mem_cons_of_mem _ h)
  have hown : s.vm.findClass RX0 = some m.cls := findClass_of_methodNamed B.named
  have hlocks := B.notSynchronized
  subst hsz
  have hD := hD0.self (sz := s.heap.size)
  generalize hAe : va_A [(qA, .inr (0, [.ref qA_ring, .ref qA_buffer, .int A_firstPlace, .int A_forcedPlace, .int A_endPlace, .int A_wordsToFailure, .int A_opened])), (qA_ring, .inl (cA_ring, 65536, .inl A_ring)), (qA_buffer, .inl (cA_buffer, 200, .inl A_buffer))] s.heap.size = A at hD hXW0 ⊢
  have hA : ∀ q : Nat, s.heap.size ≤ q → A q := fun q h => by rw [← hAe]; exact Or.inr h
  have hS : va_S A s.heap s.heap [] := va_S.rf
  have hP : va_P (dC, dI) vwCl [(qA, .inr (0, [.ref qA_ring, .ref qA_buffer, .int A_firstPlace, .int A_forcedPlace, .int A_endPlace, .int A_wordsToFailure, .int A_opened])), (qA_ring, .inl (cA_ring, 65536, .inl A_ring)), (qA_buffer, .inl (cA_buffer, 200, .inl A_buffer))] s.heap := hP
  generalize hQQ : vx_MQ below (va_Qi post (at_A dC dI A qA qA_ring qA_buffer cA_ring cA_buffer) A) (vx_X (fun u => px u.1 u.2) (atx_A dC dI A qA qA_ring qA_buffer cA_ring cA_buffer) A) args s 1 6 A = QQ
  have hl := lv_entry ([.ref qA, .int x1]) (n := 2) (Nat.le_of_ble_eq_true rfl)
  rw [show entryFrame m args 2 = entryFrame m ([.ref qA, .int x1] : List Value).toArray 2 by rw [hav], lg_entry_eq]
  generalize (lg_sl ([.ref qA, .int x1]) ++ List.replicate (2 - (lg_sl ([.ref qA, .int x1])).length) Slot.unset).toArray = ls at hl ⊢
  have hl : lv_has ls 2 [(0, .ref qA), (1, .int x1)] := hl
  unfold wp_X0_log at hw
  refine lv_iload_n hx hb dX0_log_0 rfl (lv_at hl 1 rfl) ?_
  rcases Classical.em (x1 = (0 : Int32)) with c9_0 | c9_0
  · have hw := hw.1 c9_0
    refine lv_tableIn (tgt := 28) (off := 27) hx hb dX0_log_1 (by rw [c9_0]; decide) (by rw [c9_0]; decide) (by rw [c9_0]; rfl) (by decide) ?_
    refine lv_aload_n hx hb dX0_log_28 rfl (lv_at hl 0 rfl) ?_
    refine va_get (D := (dC, dI)) (ci := 0) (v := .int A_firstPlace) (C := RX0) (T := TX0) (N := 7) hx hb hbg in_X0 hown hK hP 0 rfl rfl 2 (by decide) (hbg _ kw_2) (fun _ h9 => h9) rfl dX0_log_29 ?_
    subst hQQ
    refine W.widen (k := 1) (n := 6) (Nat.le_of_ble_eq_true rfl) (Nat.le_of_ble_eq_true rfl) ?_
    refine vx_ret ?_
    exact W.iret (v := A_firstPlace) hx hb hr (fun t ht hW => ⟨⟨A_firstPlace, (A_ring, A_buffer, A_firstPlace, A_forcedPlace, A_endPlace, A_wordsToFailure, A_opened), rfl, hw, by rw [ht]; exact hP, va_K.moved hW.alike hK, hD⟩, hS.F ht⟩) hS.2.2 dX0_log_32
  · have hw := hw.2 c9_0
    rcases Classical.em (x1 = (1 : Int32)) with c9_1 | c9_1
    · have hw := hw.1 c9_1
      refine lv_tableIn (tgt := 33) (off := 32) hx hb dX0_log_1 (by rw [c9_1]; decide) (by rw [c9_1]; decide) (by rw [c9_1]; rfl) (by decide) ?_
      refine lv_aload_n hx hb dX0_log_33 rfl (lv_at hl 0 rfl) ?_
      refine va_get (D := (dC, dI)) (ci := 0) (v := .int A_forcedPlace) (C := RX0) (T := TX0) (N := 7) hx hb hbg in_X0 hown hK hP 0 rfl rfl 3 (by decide) (hbg _ kw_51) (fun _ h9 => h9) rfl dX0_log_34 ?_
      subst hQQ
      refine W.widen (k := 1) (n := 6) (Nat.le_of_ble_eq_true rfl) (Nat.le_of_ble_eq_true rfl) ?_
      refine vx_ret ?_
      exact W.iret (v := A_forcedPlace) hx hb hr (fun t ht hW => ⟨⟨A_forcedPlace, (A_ring, A_buffer, A_firstPlace, A_forcedPlace, A_endPlace, A_wordsToFailure, A_opened), rfl, hw, by rw [ht]; exact hP, va_K.moved hW.alike hK, hD⟩, hS.F ht⟩) hS.2.2 dX0_log_37
    · have hw := hw.2 c9_1
      rcases Classical.em (x1 = (2 : Int32)) with c9_2 | c9_2
      · have hw := hw.1 c9_2
        refine lv_tableIn (tgt := 38) (off := 37) hx hb dX0_log_1 (by rw [c9_2]; decide) (by rw [c9_2]; decide) (by rw [c9_2]; rfl) (by decide) ?_
        refine lv_aload_n hx hb dX0_log_38 rfl (lv_at hl 0 rfl) ?_
        refine va_get (D := (dC, dI)) (ci := 0) (v := .int A_endPlace) (C := RX0) (T := TX0) (N := 7) hx hb hbg in_X0 hown hK hP 0 rfl rfl 4 (by decide) (hbg _ kw_12) (fun _ h9 => h9) rfl dX0_log_39 ?_
        subst hQQ
        refine W.widen (k := 1) (n := 6) (Nat.le_of_ble_eq_true rfl) (Nat.le_of_ble_eq_true rfl) ?_
        refine vx_ret ?_
        exact W.iret (v := A_endPlace) hx hb hr (fun t ht hW => ⟨⟨A_endPlace, (A_ring, A_buffer, A_firstPlace, A_forcedPlace, A_endPlace, A_wordsToFailure, A_opened), rfl, hw, by rw [ht]; exact hP, va_K.moved hW.alike hK, hD⟩, hS.F ht⟩) hS.2.2 dX0_log_42
      · have hw := hw.2 c9_2
        refine lv_tableOut (tgt := 43) hx hb dX0_log_1 (by have t0 := lv_neT c9_0 (a := 0) (by decide); have t1 := lv_neT c9_1 (a := 1) (by decide); have t2 := lv_neT c9_2 (a := 2) (by decide); omega) (by decide) ?_
        subst hQQ
        obtain ⟨sa, hsa⟩ := hXW0.2.2.1 (RX0, 113, "which is 0 .. 2") (by decide +kernel)
        exact vx_throwS (own := RX0) (cls := "java/lang/IndexOutOfBoundsException") (names := ["java/lang/RuntimeException", "java/lang/Exception"]) hx hb hl9 hown (by decide +kernel) (by decide +kernel) (hbg _ kw_81) (hbg _ kw_82) hsa (vx_hat (L := vx_atS RX0 41 "java/lang/IndexOutOfBoundsException" ["java/lang/RuntimeException", "java/lang/Exception"]) (B := [.castable "java/lang/IndexOutOfBoundsException" "java/lang/IndexOutOfBoundsException", .declares ⟨"java/lang/RuntimeException", "<init>", "(Ljava/lang/String;)V"⟩, .declares ⟨"java/lang/Exception", "<init>", "(Ljava/lang/String;)V"⟩, .declares ⟨"java/lang/Throwable", "<init>", "(Ljava/lang/String;)V"⟩]) (fun w hw => hbg w (xa_RX0_41 w hw)) (by decide +kernel) (vx_c (va_Nw.use rfl (hXW0.1 "java/lang/IndexOutOfBoundsException" (by decide))) (vx_c (va_Nw.use rfl (hXW0.2.1 "java/lang/RuntimeException" (by decide))) (vx_c (va_Nw.use rfl (hXW0.2.1 "java/lang/Exception" (by decide))) (vx_c (va_Nw.use rfl (hXW0.2.1 "java/lang/Throwable" (by decide))) (vx_n)))))) (by decide +kernel) hXW0.2.2.2.2.1 hXW0.2.2.2.2.2 hS (hl.1.trans hml.symm) dX0_log_43 dX0_log_46 dX0_log_47 dX0_log_49 dX0_log_52 (fun x hx => (hEx x hx).elim) (Nat.le_of_ble_eq_true rfl) (Nat.le_of_ble_eq_true rfl) (Nat.le_of_ble_eq_true rfl) (Nat.le_of_ble_eq_true rfl) hlocks (fun t ha hsz hk => ⟨("java/lang/IndexOutOfBoundsException", (A_ring, A_buffer, A_firstPlace, A_forcedPlace, A_endPlace, A_wordsToFailure, A_opened)), hw, ⟨rfl, hP.kept (fun k q hq => hk q.1 (hP k q hq).lt), va_K.moved ha hK, hD⟩, Nat.le_trans hS.1 hsz, fun q h1 h2 => (hk q (Nat.lt_of_lt_of_le h1 hS.1)).trans (hS.2.1 q h1 h2)⟩) hS.2.2 (Nat.le_of_ble_eq_true rfl) (Nat.le_of_ble_eq_true rfl)
def wp_X0_cutAfter (post : St_A → Prop) (px : String → St_A → Prop) (x1 : Int32) (A_ring : Nat → Int32) (A_buffer : Nat → Int32) (A_firstPlace : Int32) (A_forcedPlace : Int32) (A_endPlace : Int32) (A_wordsToFailure : Int32) (A_opened : Int32) : Prop :=
  (((-1 : Int32) ≤ x1 → post (A_ring, A_buffer, A_firstPlace, A_forcedPlace, A_endPlace, x1, A_opened)) ∧ (¬ (-1 : Int32) ≤ x1 → px "java/lang/IllegalArgumentException" (A_ring, A_buffer, A_firstPlace, A_forcedPlace, A_endPlace, A_wordsToFailure, A_opened)))
set_option maxHeartbeats 4000000 in
set_option maxRecDepth 100000 in
theorem met_X0_cutAfter (l : Launch) (hl9 : l.stackTraces = false) (dC : Nat → ClassId) (dI : Nat → Nat → Nat) (qA qA_ring qA_buffer : Nat) (cA_ring cA_buffer : ClassId) (sz : Nat) (A_ring : Nat → Int32) (A_buffer : Nat → Int32) (A_firstPlace : Int32) (A_forcedPlace : Int32) (A_endPlace : Int32) (A_wordsToFailure : Int32) (A_opened : Int32) (x1 : Int32) (post : St_A → Prop) (px : String → St_A → Prop) (hw : wp_X0_cutAfter post px x1 A_ring A_buffer A_firstPlace A_forcedPlace A_endPlace A_wordsToFailure A_opened) :
    vx_Met l yX0_cutAfter wsX0_cutAfter ({ frames := 6, cells := 1, slots := 6, locals := 96 } : Room) (pcX_A dC dI qA qA_ring qA_buffer cA_ring cA_buffer sz A_ring A_buffer A_firstPlace A_forcedPlace A_endPlace A_wordsToFailure A_opened [.ref qA, .int x1]) (va_Qv post (at_A dC dI (va_A [(qA, .inr (0, [.ref qA_ring, .ref qA_buffer, .int A_firstPlace, .int A_forcedPlace, .int A_endPlace, .int A_wordsToFailure, .int A_opened])), (qA_ring, .inl (cA_ring, 65536, .inl A_ring)), (qA_buffer, .inl (cA_buffer, 200, .inl A_buffer))] sz) qA qA_ring qA_buffer cA_ring cA_buffer) (va_A [(qA, .inr (0, [.ref qA_ring, .ref qA_buffer, .int A_firstPlace, .int A_forcedPlace, .int A_endPlace, .int A_wordsToFailure, .int A_opened])), (qA_ring, .inl (cA_ring, 65536, .inl A_ring)), (qA_buffer, .inl (cA_buffer, 200, .inl A_buffer))] sz)) (vx_X (fun u => px u.1 u.2) (atx_A dC dI (va_A [(qA, .inr (0, [.ref qA_ring, .ref qA_buffer, .int A_firstPlace, .int A_forcedPlace, .int A_endPlace, .int A_wordsToFailure, .int A_opened])), (qA_ring, .inl (cA_ring, 65536, .inl A_ring)), (qA_buffer, .inl (cA_buffer, 200, .inl A_buffer))] sz) qA qA_ring qA_buffer cA_ring cA_buffer) (va_A [(qA, .inr (0, [.ref qA_ring, .ref qA_buffer, .int A_firstPlace, .int A_forcedPlace, .int A_endPlace, .int A_wordsToFailure, .int A_opened])), (qA_ring, .inl (cA_ring, 65536, .inl A_ring)), (qA_buffer, .inl (cA_buffer, 200, .inl A_buffer))] sz)) 1 6 (va_A [(qA, .inr (0, [.ref qA_ring, .ref qA_buffer, .int A_firstPlace, .int A_forcedPlace, .int A_endPlace, .int A_wordsToFailure, .int A_opened])), (qA_ring, .inl (cA_ring, 65536, .inl A_ring)), (qA_buffer, .inl (cA_buffer, 200, .inl A_buffer))] sz) := by
  refine vx_ofW (cc := cX0_cutAfter) (maxL := 2) (ret := none) (by decide) rfl ?_
  intro p e s m args below meth c s₁ B hml hEx hv
  obtain ⟨hav, hsz, hP, hK, hD0, hXW0⟩ := hv
  have hx := B.exec
  have hb := B.bytes
  have hr := B.returns
  have hts := atoms_spec (ws := wsX0_cutAfter) B.pre
  have hbg : ∀ w ∈ bigW, w.before args s = true := fun w h => hts w (List.mem_cons_of_mem _ h)
  have hown : s.vm.findClass RX0 = some m.cls := findClass_of_methodNamed B.named
  have hlocks := B.notSynchronized
  subst hsz
  have hD := hD0.self (sz := s.heap.size)
  generalize hAe : va_A [(qA, .inr (0, [.ref qA_ring, .ref qA_buffer, .int A_firstPlace, .int A_forcedPlace, .int A_endPlace, .int A_wordsToFailure, .int A_opened])), (qA_ring, .inl (cA_ring, 65536, .inl A_ring)), (qA_buffer, .inl (cA_buffer, 200, .inl A_buffer))] s.heap.size = A at hD hXW0 ⊢
  have hA : ∀ q : Nat, s.heap.size ≤ q → A q := fun q h => by rw [← hAe]; exact Or.inr h
  have hS : va_S A s.heap s.heap [] := va_S.rf
  have hP : va_P (dC, dI) vwCl [(qA, .inr (0, [.ref qA_ring, .ref qA_buffer, .int A_firstPlace, .int A_forcedPlace, .int A_endPlace, .int A_wordsToFailure, .int A_opened])), (qA_ring, .inl (cA_ring, 65536, .inl A_ring)), (qA_buffer, .inl (cA_buffer, 200, .inl A_buffer))] s.heap := hP
  generalize hQQ : vx_MQ below (va_Qv post (at_A dC dI A qA qA_ring qA_buffer cA_ring cA_buffer) A) (vx_X (fun u => px u.1 u.2) (atx_A dC dI A qA qA_ring qA_buffer cA_ring cA_buffer) A) args s 1 6 A = QQ
  have hl := lv_entry ([.ref qA, .int x1]) (n := 2) (Nat.le_of_ble_eq_true rfl)
  rw [show entryFrame m args 2 = entryFrame m ([.ref qA, .int x1] : List Value).toArray 2 by rw [hav], lg_entry_eq]
  generalize (lg_sl ([.ref qA, .int x1]) ++ List.replicate (2 - (lg_sl ([.ref qA, .int x1])).length) Slot.unset).toArray = ls at hl ⊢
  have hl : lv_has ls 2 [(0, .ref qA), (1, .int x1)] := hl
  unfold wp_X0_cutAfter at hw
  refine lv_iload_n hx hb dX0_cutAfter_0 rfl (lv_at hl 1 rfl) ?_
  refine lv_iconst (v := (-1 : Int32)) hx hb dX0_cutAfter_1 (by decide) ?_
  refine lv_icmp_ge (tgt := 15) hx hb dX0_cutAfter_2 (by decide) (fun c9 => ?_) (fun c9 => ?_)
  · have hw := hw.1 c9
    refine lv_aload_n hx hb dX0_cutAfter_15 rfl (lv_at hl 0 rfl) ?_
    refine lv_iload_n hx hb dX0_cutAfter_16 rfl (lv_at hl 1 rfl) ?_
    refine va_put (D := (dC, dI)) (ci := 0) (v := .int x1) (ty := .int) (C := RX0) (T := TX0) (N := 7) hx hb hbg in_X0 tyX0 tyX0_ok nmX0 hown hK hP hD hS 0 rfl rfl 5 (by decide) (hbg _ kw_52) (fun _ h9 => h9) rfl (by decide +kernel) rfl rfl (Nat.le_of_ble_eq_true rfl) dX0_cutAfter_17 (fun H_1 locs hP hD hS => ?_)
    have hP : va_P (dC, dI) vwCl [(qA, .inr (0, [.ref qA_ring, .ref qA_buffer, .int A_firstPlace, .int A_forcedPlace, .int A_endPlace, .int x1, .int A_opened])), (qA_ring, .inl (cA_ring, 65536, .inl A_ring)), (qA_buffer, .inl (cA_buffer, 200, .inl A_buffer))] H_1 := hP
    have hD : va_D A [(qA, .inr (0, [.ref qA_ring, .ref qA_buffer, .int A_firstPlace, .int A_forcedPlace, .int A_endPlace, .int x1, .int A_opened])), (qA_ring, .inl (cA_ring, 65536, .inl A_ring)), (qA_buffer, .inl (cA_buffer, 200, .inl A_buffer))] := hD
    subst hQQ
    refine W.widen (k := 1) (n := 6) (Nat.le_of_ble_eq_true rfl) (Nat.le_of_ble_eq_true rfl) ?_
    refine vx_ret ?_
    exact W.vret hx hb hr (fun t ht hW => ⟨⟨(A_ring, A_buffer, A_firstPlace, A_forcedPlace, A_endPlace, x1, A_opened), rfl, hw, by rw [ht]; exact hP, va_K.moved hW.alike hK, hD⟩, hS.F ht⟩) hS.2.2 dX0_cutAfter_20
  · have hw := hw.2 c9
    subst hQQ
    obtain ⟨sa, hsa⟩ := hXW0.2.2.1 (RX0, 115, "n is NONE or a number of words") (by decide +kernel)
    exact vx_throwS (own := RX0) (cls := "java/lang/IllegalArgumentException") (names := ["java/lang/RuntimeException", "java/lang/Exception"]) hx hb hl9 hown (by decide +kernel) (by decide +kernel) (hbg _ kw_69) (hbg _ kw_70) hsa (vx_hat (L := vx_atS RX0 56 "java/lang/IllegalArgumentException" ["java/lang/RuntimeException", "java/lang/Exception"]) (B := [.castable "java/lang/IllegalArgumentException" "java/lang/IllegalArgumentException", .declares ⟨"java/lang/RuntimeException", "<init>", "(Ljava/lang/String;)V"⟩, .declares ⟨"java/lang/Exception", "<init>", "(Ljava/lang/String;)V"⟩, .declares ⟨"java/lang/Throwable", "<init>", "(Ljava/lang/String;)V"⟩]) (fun w hw => hbg w (xa_RX0_56 w hw)) (by decide +kernel) (vx_c (va_Nw.use rfl (hXW0.1 "java/lang/IllegalArgumentException" (by decide))) (vx_c (va_Nw.use rfl (hXW0.2.1 "java/lang/RuntimeException" (by decide))) (vx_c (va_Nw.use rfl (hXW0.2.1 "java/lang/Exception" (by decide))) (vx_c (va_Nw.use rfl (hXW0.2.1 "java/lang/Throwable" (by decide))) (vx_n)))))) (by decide +kernel) hXW0.2.2.2.2.1 hXW0.2.2.2.2.2 hS (hl.1.trans hml.symm) dX0_cutAfter_5 dX0_cutAfter_8 dX0_cutAfter_9 dX0_cutAfter_11 dX0_cutAfter_14 (fun x hx => (hEx x hx).elim) (Nat.le_of_ble_eq_true rfl) (Nat.le_of_ble_eq_true rfl) (Nat.le_of_ble_eq_true rfl) (Nat.le_of_ble_eq_true rfl) hlocks (fun t ha hsz hk => ⟨("java/lang/IllegalArgumentException", (A_ring, A_buffer, A_firstPlace, A_forcedPlace, A_endPlace, A_wordsToFailure, A_opened)), hw, ⟨rfl, hP.kept (fun k q hq => hk q.1 (hP k q hq).lt), va_K.moved ha hK, hD⟩, Nat.le_trans hS.1 hsz, fun q h1 h2 => (hk q (Nat.lt_of_lt_of_le h1 hS.1)).trans (hS.2.1 q h1 h2)⟩) hS.2.2 (Nat.le_of_ble_eq_true rfl) (Nat.le_of_ble_eq_true rfl)
def wp_X0_open (post : Int32 → St_A → Prop) (px : String → St_A → Prop) (A_ring : Nat → Int32) (A_buffer : Nat → Int32) (A_firstPlace : Int32) (A_forcedPlace : Int32) (A_endPlace : Int32) (A_wordsToFailure : Int32) (A_opened : Int32) : Prop :=
  ((A_opened = (0 : Int32) → wp_X0_addVoidRest (fun u_1 => match u_1 with | (A_ring_1, A_buffer_1, A_firstPlace_1, A_forcedPlace_1, A_endPlace_1, A_wordsToFailure_1, A_opened_1) => wp_X0_writeUpTo (fun r_2 u_2 => match u_2 with | (A_ring_2, A_buffer_2, A_firstPlace_2, A_forcedPlace_2, A_endPlace_2, A_wordsToFailure_2, A_opened_2) => ((r_2 = (-1 : Int32) → post r_2 (A_ring_2, A_buffer_2, A_firstPlace_2, A_forcedPlace_2, A_endPlace_2, A_wordsToFailure_2, (0 : Int32))) ∧ (¬ r_2 = (-1 : Int32) → post r_2 (A_ring_2, A_buffer_2, A_firstPlace_2, A_forcedPlace_2, A_endPlace_2, A_wordsToFailure_2, (1 : Int32))))) A_endPlace_1 A_ring_1 A_buffer_1 A_firstPlace_1 A_forcedPlace_1 A_endPlace_1 A_wordsToFailure_1 A_opened_1) A_ring A_buffer A_firstPlace A_forcedPlace A_endPlace A_wordsToFailure A_opened) ∧ (¬ A_opened = (0 : Int32) → px "java/lang/IllegalStateException" (A_ring, A_buffer, A_firstPlace, A_forcedPlace, A_endPlace, A_wordsToFailure, A_opened)))
set_option maxHeartbeats 4000000 in
set_option maxRecDepth 100000 in
theorem met_X0_open (l : Launch) (hl9 : l.stackTraces = false) (dC : Nat → ClassId) (dI : Nat → Nat → Nat) (qA qA_ring qA_buffer : Nat) (cA_ring cA_buffer : ClassId) (sz : Nat) (A_ring : Nat → Int32) (A_buffer : Nat → Int32) (A_firstPlace : Int32) (A_forcedPlace : Int32) (A_endPlace : Int32) (A_wordsToFailure : Int32) (A_opened : Int32) (post : Int32 → St_A → Prop) (px : String → St_A → Prop) (hw : wp_X0_open post px A_ring A_buffer A_firstPlace A_forcedPlace A_endPlace A_wordsToFailure A_opened) :
    vx_Met l yX0_open wsX0_open ({ frames := 6, cells := 1, slots := 6, locals := 96 } : Room) (pcX_A dC dI qA qA_ring qA_buffer cA_ring cA_buffer sz A_ring A_buffer A_firstPlace A_forcedPlace A_endPlace A_wordsToFailure A_opened [.ref qA]) (va_Qi post (at_A dC dI (va_A [(qA, .inr (0, [.ref qA_ring, .ref qA_buffer, .int A_firstPlace, .int A_forcedPlace, .int A_endPlace, .int A_wordsToFailure, .int A_opened])), (qA_ring, .inl (cA_ring, 65536, .inl A_ring)), (qA_buffer, .inl (cA_buffer, 200, .inl A_buffer))] sz) qA qA_ring qA_buffer cA_ring cA_buffer) (va_A [(qA, .inr (0, [.ref qA_ring, .ref qA_buffer, .int A_firstPlace, .int A_forcedPlace, .int A_endPlace, .int A_wordsToFailure, .int A_opened])), (qA_ring, .inl (cA_ring, 65536, .inl A_ring)), (qA_buffer, .inl (cA_buffer, 200, .inl A_buffer))] sz)) (vx_X (fun u => px u.1 u.2) (atx_A dC dI (va_A [(qA, .inr (0, [.ref qA_ring, .ref qA_buffer, .int A_firstPlace, .int A_forcedPlace, .int A_endPlace, .int A_wordsToFailure, .int A_opened])), (qA_ring, .inl (cA_ring, 65536, .inl A_ring)), (qA_buffer, .inl (cA_buffer, 200, .inl A_buffer))] sz) qA qA_ring qA_buffer cA_ring cA_buffer) (va_A [(qA, .inr (0, [.ref qA_ring, .ref qA_buffer, .int A_firstPlace, .int A_forcedPlace, .int A_endPlace, .int A_wordsToFailure, .int A_opened])), (qA_ring, .inl (cA_ring, 65536, .inl A_ring)), (qA_buffer, .inl (cA_buffer, 200, .inl A_buffer))] sz)) 1 6 (va_A [(qA, .inr (0, [.ref qA_ring, .ref qA_buffer, .int A_firstPlace, .int A_forcedPlace, .int A_endPlace, .int A_wordsToFailure, .int A_opened])), (qA_ring, .inl (cA_ring, 65536, .inl A_ring)), (qA_buffer, .inl (cA_buffer, 200, .inl A_buffer))] sz) := by
  refine vx_ofW (cc := cX0_open) (maxL := 2) (ret := (some .int)) (by decide) rfl ?_
  intro p e s m args below meth c s₁ B hml hEx hv
  obtain ⟨hav, hsz, hP, hK, hD0, hXW0⟩ := hv
  have hx := B.exec
  have hb := B.bytes
  have hr := B.returns
  have hts := atoms_spec (ws := wsX0_open) B.pre
  have hbg : ∀ w ∈ bigW, w.before args s = true := fun w h => hts w (List.mem_cons_of_mem _ h)
  have hown : s.vm.findClass RX0 = some m.cls := findClass_of_methodNamed B.named
  have hlocks := B.notSynchronized
  subst hsz
  have hD := hD0.self (sz := s.heap.size)
  generalize hAe : va_A [(qA, .inr (0, [.ref qA_ring, .ref qA_buffer, .int A_firstPlace, .int A_forcedPlace, .int A_endPlace, .int A_wordsToFailure, .int A_opened])), (qA_ring, .inl (cA_ring, 65536, .inl A_ring)), (qA_buffer, .inl (cA_buffer, 200, .inl A_buffer))] s.heap.size = A at hD hXW0 ⊢
  have hA : ∀ q : Nat, s.heap.size ≤ q → A q := fun q h => by rw [← hAe]; exact Or.inr h
  have hS : va_S A s.heap s.heap [] := va_S.rf
  have hP : va_P (dC, dI) vwCl [(qA, .inr (0, [.ref qA_ring, .ref qA_buffer, .int A_firstPlace, .int A_forcedPlace, .int A_endPlace, .int A_wordsToFailure, .int A_opened])), (qA_ring, .inl (cA_ring, 65536, .inl A_ring)), (qA_buffer, .inl (cA_buffer, 200, .inl A_buffer))] s.heap := hP
  generalize hQQ : vx_MQ below (va_Qi post (at_A dC dI A qA qA_ring qA_buffer cA_ring cA_buffer) A) (vx_X (fun u => px u.1 u.2) (atx_A dC dI A qA qA_ring qA_buffer cA_ring cA_buffer) A) args s 1 6 A = QQ
  have hl := lv_entry ([.ref qA]) (n := 2) (Nat.le_of_ble_eq_true rfl)
  rw [show entryFrame m args 2 = entryFrame m ([.ref qA] : List Value).toArray 2 by rw [hav], lg_entry_eq]
  generalize (lg_sl ([.ref qA]) ++ List.replicate (2 - (lg_sl ([.ref qA])).length) Slot.unset).toArray = ls at hl ⊢
  have hl : lv_has ls 2 [(0, .ref qA)] := hl
  unfold wp_X0_open at hw
  refine lv_aload_n hx hb dX0_open_0 rfl (lv_at hl 0 rfl) ?_
  refine va_get (D := (dC, dI)) (ci := 0) (v := .int A_opened) (C := RX0) (T := TX0) (N := 7) hx hb hbg in_X0 hown hK hP 0 rfl rfl 6 (by decide) (hbg _ kw_45) (fun _ h9 => h9) rfl dX0_open_1 ?_
  refine lv_if_eq (tgt := 17) hx hb dX0_open_4 (by decide) (fun c9 => ?_) (fun c9 => ?_)
  · have hw := hw.1 c9
    refine lv_aload_n hx hb dX0_open_17 rfl (lv_at hl 0 rfl) ?_
    have hFc := va_free (wc := [(qA, .inr (0, [.ref qA_ring, .ref qA_buffer, .int A_firstPlace, .int A_forcedPlace, .int A_endPlace, .int A_wordsToFailure, .int A_opened])), (qA_ring, .inl (cA_ring, 65536, .inl A_ring)), (qA_buffer, .inl (cA_buffer, 200, .inl A_buffer))]) hD hS hA [0, 1, 2] rfl
    refine va_callv (va_runV (As := []) (rest := []) ⟨hx, hb, hml, hown, hbg⟩ (met_X0_addVoidRest l dC dI qA qA_ring qA_buffer cA_ring cA_buffer s.heap.size A_ring A_buffer A_firstPlace A_forcedPlace A_endPlace A_wordsToFailure A_opened  _ hw) (cwV 0 hbg g_RX0_122 rfl rfl rfl (by decide +kernel) ⟨Nat.le_of_ble_eq_true rfl, Nat.le_of_ble_eq_true rfl⟩) ⟨pcW_A_b _ _ _ _ _ _ _ _ _ _ _ _ _ _ _ _, va_recv hK hP (ci := 0) (q0 := 0) rfl rfl, fun U hU hW => ⟨rfl, by rw [hU], by rw [hU]; exact hP, va_K.moved hW.alike hK, hD.weaken (fun _ _ _ _ => trivial)⟩⟩ rfl rfl hl.1 rfl (lv_room (Nat.le_of_ble_eq_true rfl)) dX0_open_18 ⟨Nat.le_of_ble_eq_true rfl, Nat.le_of_ble_eq_true rfl⟩) hS (fun q _ h => hFc q h) hFc (fun u_1 t_1 H_1 locs ht hvm hw hB hz1 hk1 hS => ?_)
    obtain ⟨A_ring_1, A_buffer_1, A_firstPlace_1, A_forcedPlace_1, A_endPlace_1, A_wordsToFailure_1, A_opened_1⟩ := u_1
    obtain ⟨hP1, hK1, hD1⟩ := hB
    rw [ht] at hP1
    try dsimp only at hw
    have hP : va_P (dC, dI) vwCl [(qA, .inr (0, [.ref qA_ring, .ref qA_buffer, .int A_firstPlace_1, .int A_forcedPlace_1, .int A_endPlace_1, .int A_wordsToFailure_1, .int A_opened_1])), (qA_ring, .inl (cA_ring, 65536, .inl A_ring_1)), (qA_buffer, .inl (cA_buffer, 200, .inl A_buffer_1))] H_1 := hP1
    have hD : va_D A [(qA, .inr (0, [.ref qA_ring, .ref qA_buffer, .int A_firstPlace_1, .int A_forcedPlace_1, .int A_endPlace_1, .int A_wordsToFailure_1, .int A_opened_1])), (qA_ring, .inl (cA_ring, 65536, .inl A_ring_1)), (qA_buffer, .inl (cA_buffer, 200, .inl A_buffer_1))] := hD1.weaken (fun _ _ _ h => hFc _ h)
    refine lv_aload_n hx hb dX0_open_21 rfl (lv_at hl 0 rfl) ?_
    refine lv_aload_n hx hb dX0_open_22 rfl (lv_at hl 0 rfl) ?_
    refine va_get (D := (dC, dI)) (ci := 0) (v := .int A_endPlace_1) (C := RX0) (T := TX0) (N := 7) hx hb hbg in_X0 hown hK hP 0 rfl rfl 4 (by decide) (hbg _ kw_12) (fun _ h9 => h9) rfl dX0_open_23 ?_
    have hFc := va_free (wc := [(qA, .inr (0, [.ref qA_ring, .ref qA_buffer, .int A_firstPlace_1, .int A_forcedPlace_1, .int A_endPlace_1, .int A_wordsToFailure_1, .int A_opened_1])), (qA_ring, .inl (cA_ring, 65536, .inl A_ring_1)), (qA_buffer, .inl (cA_buffer, 200, .inl A_buffer_1))]) hD hS hA [0, 1, 2] rfl
    refine va_calli (va_runV (As := [.int A_endPlace_1]) (rest := []) ⟨hx, hb, hml, hown, hbg⟩ (met_X0_writeUpTo l dC dI qA qA_ring qA_buffer cA_ring cA_buffer H_1.size A_ring_1 A_buffer_1 A_firstPlace_1 A_forcedPlace_1 A_endPlace_1 A_wordsToFailure_1 A_opened_1 A_endPlace_1 _ hw) (cwV 1 hbg g_RX0_77 rfl rfl rfl (by decide +kernel) ⟨Nat.le_of_ble_eq_true rfl, Nat.le_of_ble_eq_true rfl⟩) ⟨pcW_A_b _ _ _ _ _ _ _ _ _ _ _ _ _ _ _ _, va_recv hK hP (ci := 0) (q0 := 0) rfl rfl, fun U hU hW => ⟨rfl, by rw [hU], by rw [hU]; exact hP, va_K.moved hW.alike hK, hD.weaken (fun _ _ _ _ => trivial)⟩⟩ rfl rfl hl.1 rfl (lv_room (Nat.le_of_ble_eq_true rfl)) dX0_open_26 ⟨Nat.le_of_ble_eq_true rfl, Nat.le_of_ble_eq_true rfl⟩) hS (fun q _ h => hFc q h) hFc (fun r_2 u_2 t_2 H_2 locs ht hvm hw hB hz1 hk1 hS => ?_)
    obtain ⟨A_ring_2, A_buffer_2, A_firstPlace_2, A_forcedPlace_2, A_endPlace_2, A_wordsToFailure_2, A_opened_2⟩ := u_2
    obtain ⟨hP1, hK1, hD1⟩ := hB
    rw [ht] at hP1
    try dsimp only at hw
    have hP : va_P (dC, dI) vwCl [(qA, .inr (0, [.ref qA_ring, .ref qA_buffer, .int A_firstPlace_2, .int A_forcedPlace_2, .int A_endPlace_2, .int A_wordsToFailure_2, .int A_opened_2])), (qA_ring, .inl (cA_ring, 65536, .inl A_ring_2)), (qA_buffer, .inl (cA_buffer, 200, .inl A_buffer_2))] H_2 := hP1
    have hD : va_D A [(qA, .inr (0, [.ref qA_ring, .ref qA_buffer, .int A_firstPlace_2, .int A_forcedPlace_2, .int A_endPlace_2, .int A_wordsToFailure_2, .int A_opened_2])), (qA_ring, .inl (cA_ring, 65536, .inl A_ring_2)), (qA_buffer, .inl (cA_buffer, 200, .inl A_buffer_2))] := hD1.weaken (fun _ _ _ h => hFc _ h)
    refine lv_istore_n (lv' := [(1, .int r_2), (0, .ref qA)]) hx hb dX0_open_29 rfl hl (by decide) rfl (fun ls hl => ?_)
    refine lv_aload_n hx hb dX0_open_30 rfl (lv_at hl 1 rfl) ?_
    refine lv_iload_n hx hb dX0_open_31 rfl (lv_at hl 0 rfl) ?_
    refine lv_iconst (v := (-1 : Int32)) hx hb dX0_open_32 (by decide) ?_
    refine lv_icmp_eq (tgt := 40) hx hb dX0_open_33 (by decide) (fun c9 => ?_) (fun c9 => ?_)
    · have hw := hw.1 c9
      refine lv_iconst (v := (0 : Int32)) hx hb dX0_open_40 (by decide) ?_
      refine va_put (D := (dC, dI)) (ci := 0) (v := .int (0 : Int32)) (ty := .boolean) (C := RX0) (T := TX0) (N := 7) hx hb hbg in_X0 tyX0 tyX0_ok nmX0 hown hK hP hD hS 0 rfl rfl 6 (by decide) (hbg _ kw_45) (fun _ h9 => h9) rfl (by decide +kernel) rfl rfl (Nat.le_of_ble_eq_true rfl) dX0_open_41 (fun H_3 locs hP hD hS => ?_)
      have hP : va_P (dC, dI) vwCl [(qA, .inr (0, [.ref qA_ring, .ref qA_buffer, .int A_firstPlace_2, .int A_forcedPlace_2, .int A_endPlace_2, .int A_wordsToFailure_2, .int (0 : Int32)])), (qA_ring, .inl (cA_ring, 65536, .inl A_ring_2)), (qA_buffer, .inl (cA_buffer, 200, .inl A_buffer_2))] H_3 := hP
      have hD : va_D A [(qA, .inr (0, [.ref qA_ring, .ref qA_buffer, .int A_firstPlace_2, .int A_forcedPlace_2, .int A_endPlace_2, .int A_wordsToFailure_2, .int (0 : Int32)])), (qA_ring, .inl (cA_ring, 65536, .inl A_ring_2)), (qA_buffer, .inl (cA_buffer, 200, .inl A_buffer_2))] := hD
      refine lv_iload_n hx hb dX0_open_44 rfl (lv_at hl 0 rfl) ?_
      subst hQQ
      refine W.widen (k := 1) (n := 6) (Nat.le_of_ble_eq_true rfl) (Nat.le_of_ble_eq_true rfl) ?_
      refine vx_ret ?_
      exact W.iret (v := r_2) hx hb hr (fun t ht hW => ⟨⟨r_2, (A_ring_2, A_buffer_2, A_firstPlace_2, A_forcedPlace_2, A_endPlace_2, A_wordsToFailure_2, (0 : Int32)), rfl, hw, by rw [ht]; exact hP, va_K.moved hW.alike hK, hD⟩, hS.F ht⟩) hS.2.2 dX0_open_45
    · have hw := hw.2 c9
      refine lv_iconst (v := (1 : Int32)) hx hb dX0_open_36 (by decide) ?_
      refine lv_goto (tgt := 41) hx hb dX0_open_37 (by decide) ?_
      refine va_put (D := (dC, dI)) (ci := 0) (v := .int (1 : Int32)) (ty := .boolean) (C := RX0) (T := TX0) (N := 7) hx hb hbg in_X0 tyX0 tyX0_ok nmX0 hown hK hP hD hS 0 rfl rfl 6 (by decide) (hbg _ kw_45) (fun _ h9 => h9) rfl (by decide +kernel) rfl rfl (Nat.le_of_ble_eq_true rfl) dX0_open_41 (fun H_4 locs hP hD hS => ?_)
      have hP : va_P (dC, dI) vwCl [(qA, .inr (0, [.ref qA_ring, .ref qA_buffer, .int A_firstPlace_2, .int A_forcedPlace_2, .int A_endPlace_2, .int A_wordsToFailure_2, .int (1 : Int32)])), (qA_ring, .inl (cA_ring, 65536, .inl A_ring_2)), (qA_buffer, .inl (cA_buffer, 200, .inl A_buffer_2))] H_4 := hP
      have hD : va_D A [(qA, .inr (0, [.ref qA_ring, .ref qA_buffer, .int A_firstPlace_2, .int A_forcedPlace_2, .int A_endPlace_2, .int A_wordsToFailure_2, .int (1 : Int32)])), (qA_ring, .inl (cA_ring, 65536, .inl A_ring_2)), (qA_buffer, .inl (cA_buffer, 200, .inl A_buffer_2))] := hD
      refine lv_iload_n hx hb dX0_open_44 rfl (lv_at hl 0 rfl) ?_
      subst hQQ
      refine W.widen (k := 1) (n := 6) (Nat.le_of_ble_eq_true rfl) (Nat.le_of_ble_eq_true rfl) ?_
      refine vx_ret ?_
      exact W.iret (v := r_2) hx hb hr (fun t ht hW => ⟨⟨r_2, (A_ring_2, A_buffer_2, A_firstPlace_2, A_forcedPlace_2, A_endPlace_2, A_wordsToFailure_2, (1 : Int32)), rfl, hw, by rw [ht]; exact hP, va_K.moved hW.alike hK, hD⟩, hS.F ht⟩) hS.2.2 dX0_open_45
  · have hw := hw.2 c9
    subst hQQ
    obtain ⟨sa, hsa⟩ := hXW0.2.2.1 (RX0, 120, "the book is open") (by decide +kernel)
    exact vx_throwS (own := RX0) (cls := "java/lang/IllegalStateException") (names := ["java/lang/RuntimeException", "java/lang/Exception"]) hx hb hl9 hown (by decide +kernel) (by decide +kernel) (hbg _ kw_67) (hbg _ kw_68) hsa (vx_hat (L := vx_atS RX0 84 "java/lang/IllegalStateException" ["java/lang/RuntimeException", "java/lang/Exception"]) (B := [.castable "java/lang/IllegalStateException" "java/lang/IllegalStateException", .declares ⟨"java/lang/RuntimeException", "<init>", "(Ljava/lang/String;)V"⟩, .declares ⟨"java/lang/Exception", "<init>", "(Ljava/lang/String;)V"⟩, .declares ⟨"java/lang/Throwable", "<init>", "(Ljava/lang/String;)V"⟩]) (fun w hw => hbg w (xa_RX0_84 w hw)) (by decide +kernel) (vx_c (va_Nw.use rfl (hXW0.1 "java/lang/IllegalStateException" (by decide))) (vx_c (va_Nw.use rfl (hXW0.2.1 "java/lang/RuntimeException" (by decide))) (vx_c (va_Nw.use rfl (hXW0.2.1 "java/lang/Exception" (by decide))) (vx_c (va_Nw.use rfl (hXW0.2.1 "java/lang/Throwable" (by decide))) (vx_n)))))) (by decide +kernel) hXW0.2.2.2.2.1 hXW0.2.2.2.2.2 hS (hl.1.trans hml.symm) dX0_open_7 dX0_open_10 dX0_open_11 dX0_open_13 dX0_open_16 (fun x hx => (hEx x hx).elim) (Nat.le_of_ble_eq_true rfl) (Nat.le_of_ble_eq_true rfl) (Nat.le_of_ble_eq_true rfl) (Nat.le_of_ble_eq_true rfl) hlocks (fun t ha hsz hk => ⟨("java/lang/IllegalStateException", (A_ring, A_buffer, A_firstPlace, A_forcedPlace, A_endPlace, A_wordsToFailure, A_opened)), hw, ⟨rfl, hP.kept (fun k q hq => hk q.1 (hP k q hq).lt), va_K.moved ha hK, hD⟩, Nat.le_trans hS.1 hsz, fun q h1 h2 => (hk q (Nat.lt_of_lt_of_le h1 hS.1)).trans (hS.2.1 q h1 h2)⟩) hS.2.2 (Nat.le_of_ble_eq_true rfl) (Nat.le_of_ble_eq_true rfl)
