def wp_X0_requireOpen (post : St_A → Prop) (px : String → St_A → Prop) (A_ring : Nat → Int32) (A_buffer : Nat → Int32) (A_firstPlace : Int32) (A_forcedPlace : Int32) (A_endPlace : Int32) (A_wordsToFailure : Int32) (A_opened : Int32) : Prop :=
  ((A_opened = (0 : Int32) → px "java/lang/IllegalStateException" (A_ring, A_buffer, A_firstPlace, A_forcedPlace, A_endPlace, A_wordsToFailure, A_opened)) ∧ (¬ A_opened = (0 : Int32) → post (A_ring, A_buffer, A_firstPlace, A_forcedPlace, A_endPlace, A_wordsToFailure, A_opened)))
set_option maxHeartbeats 4000000 in
set_option maxRecDepth 100000 in
theorem met_X0_requireOpen (l : Launch) (hl9 : l.stackTraces = false) (dC : Nat → ClassId) (dI : Nat → Nat → Nat) (qA qA_ring qA_buffer : Nat) (cA_ring cA_buffer : ClassId) (sz : Nat) (A_ring : Nat → Int32) (A_buffer : Nat → Int32) (A_firstPlace : Int32) (A_forcedPlace : Int32) (A_endPlace : Int32) (A_wordsToFailure : Int32) (A_opened : Int32) (post : St_A → Prop) (px : String → St_A → Prop) (hw : wp_X0_requireOpen post px A_ring A_buffer A_firstPlace A_forcedPlace A_endPlace A_wordsToFailure A_opened) :
    vx_Met l yX0_requireOpen wsX0_requireOpen ({ frames := 6, cells := 1, slots := 6, locals := 96 } : Room) (pcX_A dC dI qA qA_ring qA_buffer cA_ring cA_buffer sz A_ring A_buffer A_firstPlace A_forcedPlace A_endPlace A_wordsToFailure A_opened [.ref qA]) (va_Qv post (at_A dC dI (va_A [(qA, .inr (0, [.ref qA_ring, .ref qA_buffer, .int A_firstPlace, .int A_forcedPlace, .int A_endPlace, .int A_wordsToFailure, .int A_opened])), (qA_ring, .inl (cA_ring, 65536, .inl A_ring)), (qA_buffer, .inl (cA_buffer, 200, .inl A_buffer))] sz) qA qA_ring qA_buffer cA_ring cA_buffer) (va_A [(qA, .inr (0, [.ref qA_ring, .ref qA_buffer, .int A_firstPlace, .int A_forcedPlace, .int A_endPlace, .int A_wordsToFailure, .int A_opened])), (qA_ring, .inl (cA_ring, 65536, .inl A_ring)), (qA_buffer, .inl (cA_buffer, 200, .inl A_buffer))] sz)) (vx_X (fun u => px u.1 u.2) (atx_A dC dI (va_A [(qA, .inr (0, [.ref qA_ring, .ref qA_buffer, .int A_firstPlace, .int A_forcedPlace, .int A_endPlace, .int A_wordsToFailure, .int A_opened])), (qA_ring, .inl (cA_ring, 65536, .inl A_ring)), (qA_buffer, .inl (cA_buffer, 200, .inl A_buffer))] sz) qA qA_ring qA_buffer cA_ring cA_buffer) (va_A [(qA, .inr (0, [.ref qA_ring, .ref qA_buffer, .int A_firstPlace, .int A_forcedPlace, .int A_endPlace, .int A_wordsToFailure, .int A_opened])), (qA_ring, .inl (cA_ring, 65536, .inl A_ring)), (qA_buffer, .inl (cA_buffer, 200, .inl A_buffer))] sz)) 1 6 (va_A [(qA, .inr (0, [.ref qA_ring, .ref qA_buffer, .int A_firstPlace, .int A_forcedPlace, .int A_endPlace, .int A_wordsToFailure, .int A_opened])), (qA_ring, .inl (cA_ring, 65536, .inl A_ring)), (qA_buffer, .inl (cA_buffer, 200, .inl A_buffer))] sz) := by
  refine vx_ofW (cc := cX0_requireOpen) (maxL := 1) (ret := none) (by decide) rfl ?_
  intro p e s m args below meth c s₁ B hml hEx hv
  obtain ⟨hav, hsz, hP, hK, hD0, hXW0⟩ := hv
  have hx := B.exec
  have hb := B.bytes
  have hr := B.returns
  have hts := atoms_spec (ws := wsX0_requireOpen) B.pre
  have hbg : ∀ w ∈ bigW, w.before args s = true := fun w h => hts w (List.mem_cons_of_mem _ h)
  have hown : s.vm.findClass RX0 = some m.cls := findClass_of_methodNamed B.named
  have hlocks := B.notSynchronized
  subst hsz
  have hD := hD0.self (sz := s.heap.size)
  generalize hAe : va_A [(qA, .inr (0, [.ref qA_ring, .ref qA_buffer, .int A_firstPlace, .int A_forcedPlace, .int A_endPlace, .int A_wordsToFailure, .int A_opened])), (qA_ring, .inl (cA_ring, 65536, .inl A_ring)), (qA_buffer, .inl (cA_buffer, 200, .inl A_buffer))] s.heap.size = A at hD hXW0 ⊢
  have hA : ∀ q : Nat, s.heap.size ≤ q → A q := fun q h => by rw [← hAe]; exact Or.inr h
  have hS : va_S A s.heap s.heap [] := va_S.rf
  have hP : va_P (dC, dI) vwCl [(qA, .inr (0, [.ref qA_ring, .ref qA_buffer, .int A_firstPlace, .int A_forcedPlace, .int A_endPlace, .int A_wordsToFailure, .int A_opened])), (qA_ring, .inl (cA_ring, 65536, .inl A_ring)), (qA_buffer, .inl (cA_buffer, 200, .inl A_buffer))] s.heap := hP
  generalize hQQ : vx_MQ below (va_Qv post (at_A dC dI A qA qA_ring qA_buffer cA_ring cA_buffer) A) (vx_X (fun u => px u.1 u.2) (atx_A dC dI A qA qA_ring qA_buffer cA_ring cA_buffer) A) args s 1 6 A = QQ
  have hl := lv_entry ([.ref qA]) (n := 1) (Nat.le_of_ble_eq_true rfl)
  rw [show entryFrame m args 1 = entryFrame m ([.ref qA] : List Value).toArray 1 by rw [hav], lg_entry_eq]
  generalize (lg_sl ([.ref qA]) ++ List.replicate (1 - (lg_sl ([.ref qA])).length) Slot.unset).toArray = ls at hl ⊢
  have hl : lv_has ls 1 [(0, .ref qA)] := hl
  unfold wp_X0_requireOpen at hw
  refine lv_aload_n hx hb dX0_requireOpen_0 rfl (lv_at hl 0 rfl) ?_
  refine va_get (D := (dC, dI)) (ci := 0) (v := .int A_opened) (C := RX0) (T := TX0) (N := 7) hx hb hbg in_X0 hown hK hP 0 rfl rfl 6 (by decide) (hbg _ kw_42) (fun _ h9 => h9) rfl dX0_requireOpen_1 ?_
  refine lv_if_ne (tgt := 17) hx hb dX0_requireOpen_4 (by decide) (fun c9 => ?_) (fun c9 => ?_)
  · have hw := hw.2 c9
    subst hQQ
    refine W.widen (k := 1) (n := 6) (Nat.le_of_ble_eq_true rfl) (Nat.le_of_ble_eq_true rfl) ?_
    refine vx_ret ?_
    exact W.vret hx hb hr (fun t ht hW => ⟨⟨(A_ring, A_buffer, A_firstPlace, A_forcedPlace, A_endPlace, A_wordsToFailure, A_opened), rfl, hw, by rw [ht]; exact hP, va_K.moved hW.alike hK, hD⟩, hS.F ht⟩) hS.2.2 dX0_requireOpen_17
  · have hw := hw.1 c9
    subst hQQ
    obtain ⟨sa, hsa⟩ := hXW0.2.2.1 (RX0, 125, "the book is closed") (by decide +kernel)
    exact vx_throwS (own := RX0) (cls := "java/lang/IllegalStateException") (names := ["java/lang/RuntimeException", "java/lang/Exception"]) hx hb hl9 hown (by decide +kernel) (by decide +kernel) (hbg _ kw_43) (hbg _ kw_44) hsa (vx_hat (L := vx_atS RX0 84 "java/lang/IllegalStateException" ["java/lang/RuntimeException", "java/lang/Exception"]) (B := [.castable "java/lang/IllegalStateException" "java/lang/IllegalStateException", .declares ⟨"java/lang/RuntimeException", "<init>", "(Ljava/lang/String;)V"⟩, .declares ⟨"java/lang/Exception", "<init>", "(Ljava/lang/String;)V"⟩, .declares ⟨"java/lang/Throwable", "<init>", "(Ljava/lang/String;)V"⟩]) (fun w hw => hbg w (xa_RX0_84 w hw)) (by decide +kernel) (vx_c (va_Nw.use rfl (hXW0.1 "java/lang/IllegalStateException" (by decide))) (vx_c (va_Nw.use rfl (hXW0.2.1 "java/lang/RuntimeException" (by decide))) (vx_c (va_Nw.use rfl (hXW0.2.1 "java/lang/Exception" (by decide))) (vx_c (va_Nw.use rfl (hXW0.2.1 "java/lang/Throwable" (by decide))) (vx_n)))))) (by decide +kernel) hXW0.2.2.2.2.1 hXW0.2.2.2.2.2 hS (hl.1.trans hml.symm) dX0_requireOpen_7 dX0_requireOpen_10 dX0_requireOpen_11 dX0_requireOpen_13 dX0_requireOpen_16 (fun x hx => (hEx x hx).elim) (Nat.le_of_ble_eq_true rfl) (Nat.le_of_ble_eq_true rfl) (Nat.le_of_ble_eq_true rfl) (Nat.le_of_ble_eq_true rfl) hlocks (fun t ha hsz hk => ⟨("java/lang/IllegalStateException", (A_ring, A_buffer, A_firstPlace, A_forcedPlace, A_endPlace, A_wordsToFailure, A_opened)), hw, ⟨rfl, hP.kept (fun k q hq => hk q.1 (hP k q hq).lt), va_K.moved ha hK, hD⟩, Nat.le_trans hS.1 hsz, fun q h1 h2 => (hk q (Nat.lt_of_lt_of_le h1 hS.1)).trans (hS.2.1 q h1 h2)⟩) hS.2.2 (Nat.le_of_ble_eq_true rfl) (Nat.le_of_ble_eq_true rfl)
def wp_X0_requireOwner (post : St_A → Prop) (px : String → St_A → Prop) (x1 : Int32) (A_ring : Nat → Int32) (A_buffer : Nat → Int32) (A_firstPlace : Int32) (A_forcedPlace : Int32) (A_endPlace : Int32) (A_wordsToFailure : Int32) (A_opened : Int32) : Prop :=
  ((x1 < (0 : Int32) → px "java/lang/IllegalArgumentException" (A_ring, A_buffer, A_firstPlace, A_forcedPlace, A_endPlace, A_wordsToFailure, A_opened)) ∧ (¬ x1 < (0 : Int32) → ((x1 < (8 : Int32) → post (A_ring, A_buffer, A_firstPlace, A_forcedPlace, A_endPlace, A_wordsToFailure, A_opened)) ∧ (¬ x1 < (8 : Int32) → px "java/lang/IllegalArgumentException" (A_ring, A_buffer, A_firstPlace, A_forcedPlace, A_endPlace, A_wordsToFailure, A_opened)))))
set_option maxHeartbeats 4000000 in
set_option maxRecDepth 100000 in
theorem met_X0_requireOwner (l : Launch) (hl9 : l.stackTraces = false) (dC : Nat → ClassId) (dI : Nat → Nat → Nat) (qA qA_ring qA_buffer : Nat) (cA_ring cA_buffer : ClassId) (sz : Nat) (A_ring : Nat → Int32) (A_buffer : Nat → Int32) (A_firstPlace : Int32) (A_forcedPlace : Int32) (A_endPlace : Int32) (A_wordsToFailure : Int32) (A_opened : Int32) (x1 : Int32) (post : St_A → Prop) (px : String → St_A → Prop) (hw : wp_X0_requireOwner post px x1 A_ring A_buffer A_firstPlace A_forcedPlace A_endPlace A_wordsToFailure A_opened) :
    vx_Met l yX0_requireOwner wsX0_requireOwner ({ frames := 6, cells := 1, slots := 6, locals := 96 } : Room) (pcX_A dC dI qA qA_ring qA_buffer cA_ring cA_buffer sz A_ring A_buffer A_firstPlace A_forcedPlace A_endPlace A_wordsToFailure A_opened [.ref qA, .int x1]) (va_Qv post (at_A dC dI (va_A [(qA, .inr (0, [.ref qA_ring, .ref qA_buffer, .int A_firstPlace, .int A_forcedPlace, .int A_endPlace, .int A_wordsToFailure, .int A_opened])), (qA_ring, .inl (cA_ring, 65536, .inl A_ring)), (qA_buffer, .inl (cA_buffer, 200, .inl A_buffer))] sz) qA qA_ring qA_buffer cA_ring cA_buffer) (va_A [(qA, .inr (0, [.ref qA_ring, .ref qA_buffer, .int A_firstPlace, .int A_forcedPlace, .int A_endPlace, .int A_wordsToFailure, .int A_opened])), (qA_ring, .inl (cA_ring, 65536, .inl A_ring)), (qA_buffer, .inl (cA_buffer, 200, .inl A_buffer))] sz)) (vx_X (fun u => px u.1 u.2) (atx_A dC dI (va_A [(qA, .inr (0, [.ref qA_ring, .ref qA_buffer, .int A_firstPlace, .int A_forcedPlace, .int A_endPlace, .int A_wordsToFailure, .int A_opened])), (qA_ring, .inl (cA_ring, 65536, .inl A_ring)), (qA_buffer, .inl (cA_buffer, 200, .inl A_buffer))] sz) qA qA_ring qA_buffer cA_ring cA_buffer) (va_A [(qA, .inr (0, [.ref qA_ring, .ref qA_buffer, .int A_firstPlace, .int A_forcedPlace, .int A_endPlace, .int A_wordsToFailure, .int A_opened])), (qA_ring, .inl (cA_ring, 65536, .inl A_ring)), (qA_buffer, .inl (cA_buffer, 200, .inl A_buffer))] sz)) 1 6 (va_A [(qA, .inr (0, [.ref qA_ring, .ref qA_buffer, .int A_firstPlace, .int A_forcedPlace, .int A_endPlace, .int A_wordsToFailure, .int A_opened])), (qA_ring, .inl (cA_ring, 65536, .inl A_ring)), (qA_buffer, .inl (cA_buffer, 200, .inl A_buffer))] sz) := by
  refine vx_ofW (cc := cX0_requireOwner) (maxL := 2) (ret := none) (by decide) rfl ?_
  intro p e s m args below meth c s₁ B hml hEx hv
  obtain ⟨hav, hsz, hP, hK, hD0, hXW0⟩ := hv
  have hx := B.exec
  have hb := B.bytes
  have hr := B.returns
  have hts := atoms_spec (ws := wsX0_requireOwner) B.pre
  have hbg : ∀ w ∈ bigW, w.before args s = true := fun w h => hts w (List.mem_cons_of_mem _ h)
  have hown : s.vm.findClass RX0 = some m.cls := findClass_of_methodNamed B.named
  have hlocks := B.notSynchronized
  subst hsz
  have hD := hD0.self (sz := s.heap.size)
  generalize hAe : va_A [(qA, .inr (0, [.ref qA_ring, .ref qA_buffer, .int A_firstPlace, .int A_forcedPlace, .int A_endPlace, .int A_wordsToFailure, .int A_opened])), (qA_ring, .inl (cA_ring, 65536, .inl A_ring)), (qA_buffer, .inl (cA_buffer, 200, .inl A_buffer))] s.heap.size = A at hD hXW0 ⊢
  have hA : ∀ q : Nat, s.heap.size ≤ q → A q := fun q h => by rw [← hAe]; exact Or.inr h
  have hS : va_S A s.heap s.heap [] := va_S.rf
  have hP : va_P (dC, dI) vwCl [(qA, .inr (0, [.ref qA_ring, .ref qA_buffer, .int A_firstPlace, .int A_forcedPlace, .int A_endPlace, .int A_wordsToFailure, .int A_opened])), (qA_ring, .inl (cA_ring, 65536, .inl A_ring)), (qA_buffer, .inl (cA_buffer, 200, .inl A_buffer))] s.heap := hP
  generalize hQQ : vx_MQ below (va_Qv post (at_A dC dI A qA qA_ring qA_buffer cA_ring cA_buffer) A) (vx_X (fun u => px u.1 u.2) (atx_A dC dI A qA qA_ring qA_buffer cA_ring cA_buffer) A) args s 1 6 A = QQ
  have hl := lv_entry ([.ref qA, .int x1]) (n := 2) (Nat.le_of_ble_eq_true rfl)
  rw [show entryFrame m args 2 = entryFrame m ([.ref qA, .int x1] : List Value).toArray 2 by rw [hav], lg_entry_eq]
  generalize (lg_sl ([.ref qA, .int x1]) ++ List.replicate (2 - (lg_sl ([.ref qA, .int x1])).length) Slot.unset).toArray = ls at hl ⊢
  have hl : lv_has ls 2 [(0, .ref qA), (1, .int x1)] := hl
  unfold wp_X0_requireOwner at hw
  refine lv_iload_n hx hb dX0_requireOwner_0 rfl (lv_at hl 1 rfl) ?_
  refine lv_if_lt (tgt := 10) hx hb dX0_requireOwner_1 (by decide) (fun c9 => ?_) (fun c9 => ?_)
  · have hw := hw.1 c9
    subst hQQ
    obtain ⟨sa, hsa⟩ := hXW0.2.2.1 (RX0, 127, "owners are 0 .. 7") (by decide +kernel)
    exact vx_throwS (own := RX0) (cls := "java/lang/IllegalArgumentException") (names := ["java/lang/RuntimeException", "java/lang/Exception"]) hx hb hl9 hown (by decide +kernel) (by decide +kernel) (hbg _ kw_45) (hbg _ kw_46) hsa (vx_hat (L := vx_atS RX0 56 "java/lang/IllegalArgumentException" ["java/lang/RuntimeException", "java/lang/Exception"]) (B := [.castable "java/lang/IllegalArgumentException" "java/lang/IllegalArgumentException", .declares ⟨"java/lang/RuntimeException", "<init>", "(Ljava/lang/String;)V"⟩, .declares ⟨"java/lang/Exception", "<init>", "(Ljava/lang/String;)V"⟩, .declares ⟨"java/lang/Throwable", "<init>", "(Ljava/lang/String;)V"⟩]) (fun w hw => hbg w (xa_RX0_56 w hw)) (by decide +kernel) (vx_c (va_Nw.use rfl (hXW0.1 "java/lang/IllegalArgumentException" (by decide))) (vx_c (va_Nw.use rfl (hXW0.2.1 "java/lang/RuntimeException" (by decide))) (vx_c (va_Nw.use rfl (hXW0.2.1 "java/lang/Exception" (by decide))) (vx_c (va_Nw.use rfl (hXW0.2.1 "java/lang/Throwable" (by decide))) (vx_n)))))) (by decide +kernel) hXW0.2.2.2.2.1 hXW0.2.2.2.2.2 hS (hl.1.trans hml.symm) dX0_requireOwner_10 dX0_requireOwner_13 dX0_requireOwner_14 dX0_requireOwner_16 dX0_requireOwner_19 (fun x hx => (hEx x hx).elim) (Nat.le_of_ble_eq_true rfl) (Nat.le_of_ble_eq_true rfl) (Nat.le_of_ble_eq_true rfl) (Nat.le_of_ble_eq_true rfl) hlocks (fun t ha hsz hk => ⟨("java/lang/IllegalArgumentException", (A_ring, A_buffer, A_firstPlace, A_forcedPlace, A_endPlace, A_wordsToFailure, A_opened)), hw, ⟨rfl, hP.kept (fun k q hq => hk q.1 (hP k q hq).lt), va_K.moved ha hK, hD⟩, Nat.le_trans hS.1 hsz, fun q h1 h2 => (hk q (Nat.lt_of_lt_of_le h1 hS.1)).trans (hS.2.1 q h1 h2)⟩) hS.2.2 (Nat.le_of_ble_eq_true rfl) (Nat.le_of_ble_eq_true rfl)
  · have hw := hw.2 c9
    refine lv_iload_n hx hb dX0_requireOwner_4 rfl (lv_at hl 1 rfl) ?_
    refine lv_bipush (v := (8 : Int32)) hx hb dX0_requireOwner_5 (by decide) ?_
    refine lv_icmp_lt (tgt := 20) hx hb dX0_requireOwner_7 (by decide) (fun c9 => ?_) (fun c9 => ?_)
    · have hw := hw.1 c9
      subst hQQ
      refine W.widen (k := 1) (n := 6) (Nat.le_of_ble_eq_true rfl) (Nat.le_of_ble_eq_true rfl) ?_
      refine vx_ret ?_
      exact W.vret hx hb hr (fun t ht hW => ⟨⟨(A_ring, A_buffer, A_firstPlace, A_forcedPlace, A_endPlace, A_wordsToFailure, A_opened), rfl, hw, by rw [ht]; exact hP, va_K.moved hW.alike hK, hD⟩, hS.F ht⟩) hS.2.2 dX0_requireOwner_20
    · have hw := hw.2 c9
      subst hQQ
      obtain ⟨sa, hsa⟩ := hXW0.2.2.1 (RX0, 127, "owners are 0 .. 7") (by decide +kernel)
      exact vx_throwS (own := RX0) (cls := "java/lang/IllegalArgumentException") (names := ["java/lang/RuntimeException", "java/lang/Exception"]) hx hb hl9 hown (by decide +kernel) (by decide +kernel) (hbg _ kw_45) (hbg _ kw_46) hsa (vx_hat (L := vx_atS RX0 56 "java/lang/IllegalArgumentException" ["java/lang/RuntimeException", "java/lang/Exception"]) (B := [.castable "java/lang/IllegalArgumentException" "java/lang/IllegalArgumentException", .declares ⟨"java/lang/RuntimeException", "<init>", "(Ljava/lang/String;)V"⟩, .declares ⟨"java/lang/Exception", "<init>", "(Ljava/lang/String;)V"⟩, .declares ⟨"java/lang/Throwable", "<init>", "(Ljava/lang/String;)V"⟩]) (fun w hw => hbg w (xa_RX0_56 w hw)) (by decide +kernel) (vx_c (va_Nw.use rfl (hXW0.1 "java/lang/IllegalArgumentException" (by decide))) (vx_c (va_Nw.use rfl (hXW0.2.1 "java/lang/RuntimeException" (by decide))) (vx_c (va_Nw.use rfl (hXW0.2.1 "java/lang/Exception" (by decide))) (vx_c (va_Nw.use rfl (hXW0.2.1 "java/lang/Throwable" (by decide))) (vx_n)))))) (by decide +kernel) hXW0.2.2.2.2.1 hXW0.2.2.2.2.2 hS (hl.1.trans hml.symm) dX0_requireOwner_10 dX0_requireOwner_13 dX0_requireOwner_14 dX0_requireOwner_16 dX0_requireOwner_19 (fun x hx => (hEx x hx).elim) (Nat.le_of_ble_eq_true rfl) (Nat.le_of_ble_eq_true rfl) (Nat.le_of_ble_eq_true rfl) (Nat.le_of_ble_eq_true rfl) hlocks (fun t ha hsz hk => ⟨("java/lang/IllegalArgumentException", (A_ring, A_buffer, A_firstPlace, A_forcedPlace, A_endPlace, A_wordsToFailure, A_opened)), hw, ⟨rfl, hP.kept (fun k q hq => hk q.1 (hP k q hq).lt), va_K.moved ha hK, hD⟩, Nat.le_trans hS.1 hsz, fun q h1 h2 => (hk q (Nat.lt_of_lt_of_le h1 hS.1)).trans (hS.2.1 q h1 h2)⟩) hS.2.2 (Nat.le_of_ble_eq_true rfl) (Nat.le_of_ble_eq_true rfl)
