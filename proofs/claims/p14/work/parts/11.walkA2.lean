def wl_X0_fillBuffer_2 (post : St_A → Prop) (k2_1 : Int32) (k2_2 : Int32) : Nat → Int32 → (Nat → Int32) → (Nat → Int32) → Int32 → Int32 → Int32 → Int32 → Int32 → Prop
  | 0, _, _, _, _, _, _, _, _ => False
  | n2 + 1, y2_3, A_ring_L2, A_buffer_L2, A_firstPlace_L2, A_forcedPlace_L2, A_endPlace_L2, A_wordsToFailure_L2, A_opened_L2 =>
    (((200 : Int32) ≤ y2_3 → post (A_ring_L2, A_buffer_L2, A_firstPlace_L2, A_forcedPlace_L2, A_endPlace_L2, A_wordsToFailure_L2, A_opened_L2)) ∧ (¬ (200 : Int32) ≤ y2_3 → vp_in y2_3 200 ∧ (wl_X0_fillBuffer_2 post k2_1 k2_2 n2 (y2_3 + (1 : Int32)) A_ring_L2 (upd A_buffer_L2 y2_3.toNatClampNeg (k2_1 + (y2_3 * k2_2))) A_firstPlace_L2 A_forcedPlace_L2 A_endPlace_L2 A_wordsToFailure_L2 A_opened_L2)))
def wp_X0_fillBuffer (post : St_A → Prop) (x1 : Int32) (x2 : Int32) (A_ring : Nat → Int32) (A_buffer : Nat → Int32) (A_firstPlace : Int32) (A_forcedPlace : Int32) (A_endPlace : Int32) (A_wordsToFailure : Int32) (A_opened : Int32) : Prop :=
  ∃ n, wl_X0_fillBuffer_2 post x1 x2 n (0 : Int32) A_ring A_buffer A_firstPlace A_forcedPlace A_endPlace A_wordsToFailure A_opened
set_option maxHeartbeats 4000000 in
set_option maxRecDepth 100000 in
theorem met_X0_fillBuffer (l : Launch) (dC : Nat → ClassId) (dI : Nat → Nat → Nat) (qA qA_ring qA_buffer : Nat) (cA_ring cA_buffer : ClassId) (sz : Nat) (A_ring : Nat → Int32) (A_buffer : Nat → Int32) (A_firstPlace : Int32) (A_forcedPlace : Int32) (A_endPlace : Int32) (A_wordsToFailure : Int32) (A_opened : Int32) (x1 : Int32) (x2 : Int32) (post : St_A → Prop) (hw : wp_X0_fillBuffer post x1 x2 A_ring A_buffer A_firstPlace A_forcedPlace A_endPlace A_wordsToFailure A_opened) :
    Met l yX0_fillBuffer wsX0_fillBuffer ({ frames := 0, cells := 0, slots := 0, locals := 0 } : Room) (pcW_A dC dI qA qA_ring qA_buffer cA_ring cA_buffer sz A_ring A_buffer A_firstPlace A_forcedPlace A_endPlace A_wordsToFailure A_opened [.ref qA, .int x1, .int x2]) (va_Qv post (at_A dC dI (va_A [(qA, .inr (0, [.ref qA_ring, .ref qA_buffer, .int A_firstPlace, .int A_forcedPlace, .int A_endPlace, .int A_wordsToFailure, .int A_opened])), (qA_ring, .inl (cA_ring, 65536, .inl A_ring)), (qA_buffer, .inl (cA_buffer, 200, .inl A_buffer))] sz) qA qA_ring qA_buffer cA_ring cA_buffer) (va_A [(qA, .inr (0, [.ref qA_ring, .ref qA_buffer, .int A_firstPlace, .int A_forcedPlace, .int A_endPlace, .int A_wordsToFailure, .int A_opened])), (qA_ring, .inl (cA_ring, 65536, .inl A_ring)), (qA_buffer, .inl (cA_buffer, 200, .inl A_buffer))] sz)) 0 0 (va_A [(qA, .inr (0, [.ref qA_ring, .ref qA_buffer, .int A_firstPlace, .int A_forcedPlace, .int A_endPlace, .int A_wordsToFailure, .int A_opened])), (qA_ring, .inl (cA_ring, 65536, .inl A_ring)), (qA_buffer, .inl (cA_buffer, 200, .inl A_buffer))] sz) := by
  refine Met.ofW (cc := cX0_fillBuffer) (maxL := 4) (ret := none) (by decide) rfl ?_
  intro p e s m args below meth c s₁ B hml hv
  obtain ⟨hav, hsz, hP, hK, hD0⟩ := hv
  have hx := B.exec
  have hb := B.bytes
  have hr := B.returns
  have hts := atoms_spec (ws := wsX0_fillBuffer) B.pre
  have hbg : ∀ w ∈ bigW, w.before args s = true := fun w h => hts w (List.mem_cons_of_mem _ h)
  have hown : s.vm.findClass RX0 = some m.cls := findClass_of_methodNamed B.named
  have hlocks := B.notSynchronized
  subst hsz
  have hD := hD0.self (sz := s.heap.size)
  generalize hAe : va_A [(qA, .inr (0, [.ref qA_ring, .ref qA_buffer, .int A_firstPlace, .int A_forcedPlace, .int A_endPlace, .int A_wordsToFailure, .int A_opened])), (qA_ring, .inl (cA_ring, 65536, .inl A_ring)), (qA_buffer, .inl (cA_buffer, 200, .inl A_buffer))] s.heap.size = A at hD ⊢
  have hA : ∀ q : Nat, s.heap.size ≤ q → A q := fun q h => by rw [← hAe]; exact Or.inr h
  have hS : va_S A s.heap s.heap [] := va_S.rf
  have hP : va_P (dC, dI) vwCl [(qA, .inr (0, [.ref qA_ring, .ref qA_buffer, .int A_firstPlace, .int A_forcedPlace, .int A_endPlace, .int A_wordsToFailure, .int A_opened])), (qA_ring, .inl (cA_ring, 65536, .inl A_ring)), (qA_buffer, .inl (cA_buffer, 200, .inl A_buffer))] s.heap := hP
  generalize hQQ : MQ below (va_Qv post (at_A dC dI A qA qA_ring qA_buffer cA_ring cA_buffer) A) args s 0 0 A = QQ
  have hl := lv_entry ([.ref qA, .int x1, .int x2]) (n := 4) (Nat.le_of_ble_eq_true rfl)
  rw [show entryFrame m args 4 = entryFrame m ([.ref qA, .int x1, .int x2] : List Value).toArray 4 by rw [hav], lg_entry_eq]
  generalize (lg_sl ([.ref qA, .int x1, .int x2]) ++ List.replicate (4 - (lg_sl ([.ref qA, .int x1, .int x2])).length) Slot.unset).toArray = ls at hl ⊢
  have hl : lv_has ls 4 [(0, .ref qA), (1, .int x1), (2, .int x2)] := hl
  unfold wp_X0_fillBuffer at hw
  have hL2 : ∀ (n2 : Nat) (k2_1 : Int32) (k2_2 : Int32) (y2_3 : Int32) (A_ring_L2 : Nat → Int32) (A_buffer_L2 : Nat → Int32) (A_firstPlace_L2 : Int32) (A_forcedPlace_L2 : Int32) (A_endPlace_L2 : Int32) (A_wordsToFailure_L2 : Int32) (A_opened_L2 : Int32), wl_X0_fillBuffer_2 post k2_1 k2_2 n2 y2_3 A_ring_L2 A_buffer_L2 A_firstPlace_L2 A_forcedPlace_L2 A_endPlace_L2 A_wordsToFailure_L2 A_opened_L2 → ∀ (H : Heap) (locs : List Loc), va_P (dC, dI) vwCl [(qA, .inr (0, [.ref qA_ring, .ref qA_buffer, .int A_firstPlace_L2, .int A_forcedPlace_L2, .int A_endPlace_L2, .int A_wordsToFailure_L2, .int A_opened_L2])), (qA_ring, .inl (cA_ring, 65536, .inl A_ring_L2)), (qA_buffer, .inl (cA_buffer, 200, .inl A_buffer_L2))] H → va_D A [(qA, .inr (0, [.ref qA_ring, .ref qA_buffer, .int A_firstPlace_L2, .int A_forcedPlace_L2, .int A_endPlace_L2, .int A_wordsToFailure_L2, .int A_opened_L2])), (qA_ring, .inl (cA_ring, 65536, .inl A_ring_L2)), (qA_buffer, .inl (cA_buffer, 200, .inl A_buffer_L2))] → va_S A s.heap H locs → ∀ ls : Array Slot, lv_has ls 4 [(0, .ref qA), (1, .int k2_1), (2, .int k2_2), (3, .int y2_3)] → W p l e (headSpec wsX0_fillBuffer ({ frames := 0, cells := 0, slots := 0, locals := 0 } : Room)).room s m args below meth c H locs 0 0 QQ (F0 m 2 ls []) := by
    intro n2
    induction n2 with
    | zero => intro k2_1 k2_2 y2_3 A_ring_L2 A_buffer_L2 A_firstPlace_L2 A_forcedPlace_L2 A_endPlace_L2 A_wordsToFailure_L2 A_opened_L2 hw; exact False.elim hw
    | succ n2 ih2 =>
      intro k2_1 k2_2 y2_3 A_ring_L2 A_buffer_L2 A_firstPlace_L2 A_forcedPlace_L2 A_endPlace_L2 A_wordsToFailure_L2 A_opened_L2 hw H locs hP hD hS ls hl
      rw [wl_X0_fillBuffer_2] at hw
      refine lv_iload_n hx hb dX0_fillBuffer_2 rfl (lv_at hl 3 rfl) ?_
      refine lv_aload_n hx hb dX0_fillBuffer_3 rfl (lv_at hl 0 rfl) ?_
      refine va_get (D := (dC, dI)) (ci := 0) (v := .ref qA_buffer) (C := RX0) (T := TX0) (N := 7) hx hb hbg in_X0 hown hK hP 0 rfl rfl 1 (by decide) (hbg _ kw_46) (fun _ h9 => h9) rfl dX0_fillBuffer_4 ?_
      refine va_alen (v := (200 : Int32)) hx hb hK hP 2 1 rfl rfl rfl dX0_fillBuffer_7 ?_
      refine lv_icmp_ge (tgt := 28) hx hb dX0_fillBuffer_8 (by decide) (fun c9 => ?_) (fun c9 => ?_)
      · have hw := hw.1 c9
        subst hQQ
        exact W.vret hx hb hr (fun t ht hW => ⟨⟨(A_ring_L2, A_buffer_L2, A_firstPlace_L2, A_forcedPlace_L2, A_endPlace_L2, A_wordsToFailure_L2, A_opened_L2), rfl, hw, by rw [ht]; exact hP, va_K.moved hW.alike hK, hD⟩, hS.F ht⟩) hS.2.2 dX0_fillBuffer_28
      · have hw := hw.2 c9
        refine lv_aload_n hx hb dX0_fillBuffer_11 rfl (lv_at hl 0 rfl) ?_
        refine va_get (D := (dC, dI)) (ci := 0) (v := .ref qA_buffer) (C := RX0) (T := TX0) (N := 7) hx hb hbg in_X0 hown hK hP 0 rfl rfl 1 (by decide) (hbg _ kw_46) (fun _ h9 => h9) rfl dX0_fillBuffer_12 ?_
        refine lv_iload_n hx hb dX0_fillBuffer_15 rfl (lv_at hl 3 rfl) ?_
        refine lv_iload_n hx hb dX0_fillBuffer_16 rfl (lv_at hl 1 rfl) ?_
        refine lv_iload_n hx hb dX0_fillBuffer_17 rfl (lv_at hl 3 rfl) ?_
        refine lv_iload_n hx hb dX0_fillBuffer_18 rfl (lv_at hl 2 rfl) ?_
        refine lv_imul hx hb dX0_fillBuffer_19 ?_
        refine lv_iadd hx hb dX0_fillBuffer_20 ?_
        obtain ⟨h_1, hw⟩ := hw
        refine va_iast hx hb hK hP hD hS 2 1 rfl rfl h_1 dX0_fillBuffer_21 (fun H_2 locs hP hD hS => ?_)
        have hP : va_P (dC, dI) vwCl [(qA, .inr (0, [.ref qA_ring, .ref qA_buffer, .int A_firstPlace_L2, .int A_forcedPlace_L2, .int A_endPlace_L2, .int A_wordsToFailure_L2, .int A_opened_L2])), (qA_ring, .inl (cA_ring, 65536, .inl A_ring_L2)), (qA_buffer, .inl (cA_buffer, 200, .inl (upd A_buffer_L2 y2_3.toNatClampNeg (k2_1 + (y2_3 * k2_2)))))] H_2 := hP
        have hD : va_D A [(qA, .inr (0, [.ref qA_ring, .ref qA_buffer, .int A_firstPlace_L2, .int A_forcedPlace_L2, .int A_endPlace_L2, .int A_wordsToFailure_L2, .int A_opened_L2])), (qA_ring, .inl (cA_ring, 65536, .inl A_ring_L2)), (qA_buffer, .inl (cA_buffer, 200, .inl (upd A_buffer_L2 y2_3.toNatClampNeg (k2_1 + (y2_3 * k2_2)))))] := hD
        refine lv_iinc (v := y2_3 + (1 : Int32)) (lv' := [(3, .int (y2_3 + (1 : Int32))), (0, .ref qA), (1, .int k2_1), (2, .int k2_2)]) hx hb dX0_fillBuffer_22 hl (k := 3) rfl rfl (by decide) rfl (fun ls hl => ?_)
        refine lv_goto (tgt := 2) hx hb dX0_fillBuffer_25 (by decide) ?_
        exact ih2 k2_1 k2_2 (y2_3 + (1 : Int32)) A_ring_L2 (upd A_buffer_L2 y2_3.toNatClampNeg (k2_1 + (y2_3 * k2_2))) A_firstPlace_L2 A_forcedPlace_L2 A_endPlace_L2 A_wordsToFailure_L2 A_opened_L2 hw _ _ hP hD hS ls (lv_sub hl [1, 2, 3, 0] rfl)
  refine lv_iconst (v := (0 : Int32)) hx hb dX0_fillBuffer_0 (by decide) ?_
  refine lv_istore_n (lv' := [(3, .int (0 : Int32)), (0, .ref qA), (1, .int x1), (2, .int x2)]) hx hb dX0_fillBuffer_1 rfl hl (by decide) rfl (fun ls hl => ?_)
  obtain ⟨n9, hw⟩ := hw
  exact hL2 n9 x1 x2 (0 : Int32) A_ring A_buffer A_firstPlace A_forcedPlace A_endPlace A_wordsToFailure A_opened hw _ _ hP hD hS ls (lv_sub hl [1, 2, 3, 0] rfl)
def wp_X0_addWord (post : St_A → Prop) (x1 : Int32) (A_ring : Nat → Int32) (A_buffer : Nat → Int32) (A_firstPlace : Int32) (A_forcedPlace : Int32) (A_endPlace : Int32) (A_wordsToFailure : Int32) (A_opened : Int32) : Prop :=
  vp_in (A_endPlace &&& (65535 : Int32)) 65536 ∧ (post (upd A_ring (A_endPlace &&& (65535 : Int32)).toNatClampNeg x1, A_buffer, A_firstPlace, A_forcedPlace, A_endPlace + (1 : Int32), A_wordsToFailure, A_opened))
set_option maxHeartbeats 4000000 in
set_option maxRecDepth 100000 in
theorem met_X0_addWord (l : Launch) (dC : Nat → ClassId) (dI : Nat → Nat → Nat) (qA qA_ring qA_buffer : Nat) (cA_ring cA_buffer : ClassId) (sz : Nat) (A_ring : Nat → Int32) (A_buffer : Nat → Int32) (A_firstPlace : Int32) (A_forcedPlace : Int32) (A_endPlace : Int32) (A_wordsToFailure : Int32) (A_opened : Int32) (x1 : Int32) (post : St_A → Prop) (hw : wp_X0_addWord post x1 A_ring A_buffer A_firstPlace A_forcedPlace A_endPlace A_wordsToFailure A_opened) :
    Met l yX0_addWord wsX0_addWord ({ frames := 0, cells := 0, slots := 0, locals := 0 } : Room) (pcW_A dC dI qA qA_ring qA_buffer cA_ring cA_buffer sz A_ring A_buffer A_firstPlace A_forcedPlace A_endPlace A_wordsToFailure A_opened [.ref qA, .int x1]) (va_Qv post (at_A dC dI (va_A [(qA, .inr (0, [.ref qA_ring, .ref qA_buffer, .int A_firstPlace, .int A_forcedPlace, .int A_endPlace, .int A_wordsToFailure, .int A_opened])), (qA_ring, .inl (cA_ring, 65536, .inl A_ring)), (qA_buffer, .inl (cA_buffer, 200, .inl A_buffer))] sz) qA qA_ring qA_buffer cA_ring cA_buffer) (va_A [(qA, .inr (0, [.ref qA_ring, .ref qA_buffer, .int A_firstPlace, .int A_forcedPlace, .int A_endPlace, .int A_wordsToFailure, .int A_opened])), (qA_ring, .inl (cA_ring, 65536, .inl A_ring)), (qA_buffer, .inl (cA_buffer, 200, .inl A_buffer))] sz)) 0 0 (va_A [(qA, .inr (0, [.ref qA_ring, .ref qA_buffer, .int A_firstPlace, .int A_forcedPlace, .int A_endPlace, .int A_wordsToFailure, .int A_opened])), (qA_ring, .inl (cA_ring, 65536, .inl A_ring)), (qA_buffer, .inl (cA_buffer, 200, .inl A_buffer))] sz) := by
  refine Met.ofW (cc := cX0_addWord) (maxL := 2) (ret := none) (by decide) rfl ?_
  intro p e s m args below meth c s₁ B hml hv
  obtain ⟨hav, hsz, hP, hK, hD0⟩ := hv
  have hx := B.exec
  have hb := B.bytes
  have hr := B.returns
  have hts := atoms_spec (ws := wsX0_addWord) B.pre
  have hbg : ∀ w ∈ bigW, w.before args s = true := fun w h => hts w (List.mem_cons_of_mem _ h)
  have hown : s.vm.findClass RX0 = some m.cls := findClass_of_methodNamed B.named
  have hlocks := B.notSynchronized
  subst hsz
  have hD := hD0.self (sz := s.heap.size)
  generalize hAe : va_A [(qA, .inr (0, [.ref qA_ring, .ref qA_buffer, .int A_firstPlace, .int A_forcedPlace, .int A_endPlace, .int A_wordsToFailure, .int A_opened])), (qA_ring, .inl (cA_ring, 65536, .inl A_ring)), (qA_buffer, .inl (cA_buffer, 200, .inl A_buffer))] s.heap.size = A at hD ⊢
  have hA : ∀ q : Nat, s.heap.size ≤ q → A q := fun q h => by rw [← hAe]; exact Or.inr h
  have hS : va_S A s.heap s.heap [] := va_S.rf
  have hP : va_P (dC, dI) vwCl [(qA, .inr (0, [.ref qA_ring, .ref qA_buffer, .int A_firstPlace, .int A_forcedPlace, .int A_endPlace, .int A_wordsToFailure, .int A_opened])), (qA_ring, .inl (cA_ring, 65536, .inl A_ring)), (qA_buffer, .inl (cA_buffer, 200, .inl A_buffer))] s.heap := hP
  generalize hQQ : MQ below (va_Qv post (at_A dC dI A qA qA_ring qA_buffer cA_ring cA_buffer) A) args s 0 0 A = QQ
  have hl := lv_entry ([.ref qA, .int x1]) (n := 2) (Nat.le_of_ble_eq_true rfl)
  rw [show entryFrame m args 2 = entryFrame m ([.ref qA, .int x1] : List Value).toArray 2 by rw [hav], lg_entry_eq]
  generalize (lg_sl ([.ref qA, .int x1]) ++ List.replicate (2 - (lg_sl ([.ref qA, .int x1])).length) Slot.unset).toArray = ls at hl ⊢
  have hl : lv_has ls 2 [(0, .ref qA), (1, .int x1)] := hl
  unfold wp_X0_addWord at hw
  refine lv_aload_n hx hb dX0_addWord_0 rfl (lv_at hl 0 rfl) ?_
  refine va_get (D := (dC, dI)) (ci := 0) (v := .ref qA_ring) (C := RX0) (T := TX0) (N := 7) hx hb hbg in_X0 hown hK hP 0 rfl rfl 0 (by decide) (hbg _ kw_0) (fun _ h9 => h9) rfl dX0_addWord_1 ?_
  refine lv_aload_n hx hb dX0_addWord_4 rfl (lv_at hl 0 rfl) ?_
  refine va_get (D := (dC, dI)) (ci := 0) (v := .int A_endPlace) (C := RX0) (T := TX0) (N := 7) hx hb hbg in_X0 hown hK hP 0 rfl rfl 4 (by decide) (hbg _ kw_12) (fun _ h9 => h9) rfl dX0_addWord_5 ?_
  refine lv_ldc (v := (65535 : Int32)) hx hb hown (hbg _ kw_1) dX0_addWord_8 ?_
  refine lv_iand hx hb dX0_addWord_10 ?_
  refine lv_iload_n hx hb dX0_addWord_11 rfl (lv_at hl 1 rfl) ?_
  obtain ⟨h_1, hw⟩ := hw
  refine va_iast hx hb hK hP hD hS 1 0 rfl rfl h_1 dX0_addWord_12 (fun H_2 locs hP hD hS => ?_)
  have hP : va_P (dC, dI) vwCl [(qA, .inr (0, [.ref qA_ring, .ref qA_buffer, .int A_firstPlace, .int A_forcedPlace, .int A_endPlace, .int A_wordsToFailure, .int A_opened])), (qA_ring, .inl (cA_ring, 65536, .inl (upd A_ring (A_endPlace &&& (65535 : Int32)).toNatClampNeg x1))), (qA_buffer, .inl (cA_buffer, 200, .inl A_buffer))] H_2 := hP
  have hD : va_D A [(qA, .inr (0, [.ref qA_ring, .ref qA_buffer, .int A_firstPlace, .int A_forcedPlace, .int A_endPlace, .int A_wordsToFailure, .int A_opened])), (qA_ring, .inl (cA_ring, 65536, .inl (upd A_ring (A_endPlace &&& (65535 : Int32)).toNatClampNeg x1))), (qA_buffer, .inl (cA_buffer, 200, .inl A_buffer))] := hD
  refine lv_aload_n hx hb dX0_addWord_13 rfl (lv_at hl 0 rfl) ?_
  refine lv_dup hx hb dX0_addWord_14 rfl ?_
  refine va_get (D := (dC, dI)) (ci := 0) (v := .int A_endPlace) (C := RX0) (T := TX0) (N := 7) hx hb hbg in_X0 hown hK hP 0 rfl rfl 4 (by decide) (hbg _ kw_12) (fun _ h9 => h9) rfl dX0_addWord_15 ?_
  refine lv_iconst (v := (1 : Int32)) hx hb dX0_addWord_18 (by decide) ?_
  refine lv_iadd hx hb dX0_addWord_19 ?_
  refine va_put (D := (dC, dI)) (ci := 0) (v := .int (A_endPlace + (1 : Int32))) (ty := .int) (C := RX0) (T := TX0) (N := 7) hx hb hbg in_X0 tyX0 tyX0_ok nmX0 hown hK hP hD hS 0 rfl rfl 4 (by decide) (hbg _ kw_12) (fun _ h9 => h9) rfl (by decide +kernel) rfl rfl (Nat.le_of_ble_eq_true rfl) dX0_addWord_20 (fun H_3 locs hP hD hS => ?_)
  have hP : va_P (dC, dI) vwCl [(qA, .inr (0, [.ref qA_ring, .ref qA_buffer, .int A_firstPlace, .int A_forcedPlace, .int (A_endPlace + (1 : Int32)), .int A_wordsToFailure, .int A_opened])), (qA_ring, .inl (cA_ring, 65536, .inl (upd A_ring (A_endPlace &&& (65535 : Int32)).toNatClampNeg x1))), (qA_buffer, .inl (cA_buffer, 200, .inl A_buffer))] H_3 := hP
  have hD : va_D A [(qA, .inr (0, [.ref qA_ring, .ref qA_buffer, .int A_firstPlace, .int A_forcedPlace, .int (A_endPlace + (1 : Int32)), .int A_wordsToFailure, .int A_opened])), (qA_ring, .inl (cA_ring, 65536, .inl (upd A_ring (A_endPlace &&& (65535 : Int32)).toNatClampNeg x1))), (qA_buffer, .inl (cA_buffer, 200, .inl A_buffer))] := hD
  subst hQQ
  exact W.vret hx hb hr (fun t ht hW => ⟨⟨(upd A_ring (A_endPlace &&& (65535 : Int32)).toNatClampNeg x1, A_buffer, A_firstPlace, A_forcedPlace, A_endPlace + (1 : Int32), A_wordsToFailure, A_opened), rfl, hw, by rw [ht]; exact hP, va_K.moved hW.alike hK, hD⟩, hS.F ht⟩) hS.2.2 dX0_addWord_23
def wl_X0_addContent_2 (post : St_A → Prop) (k2_1 : Int32) : Nat → Int32 → (Nat → Int32) → (Nat → Int32) → Int32 → Int32 → Int32 → Int32 → Int32 → Prop
  | 0, _, _, _, _, _, _, _, _ => False
  | n2 + 1, y2_2, A_ring_L2, A_buffer_L2, A_firstPlace_L2, A_forcedPlace_L2, A_endPlace_L2, A_wordsToFailure_L2, A_opened_L2 =>
    ((k2_1 ≤ y2_2 → post (A_ring_L2, A_buffer_L2, A_firstPlace_L2, A_forcedPlace_L2, A_endPlace_L2, A_wordsToFailure_L2, A_opened_L2)) ∧ (¬ k2_1 ≤ y2_2 → (((200 : Int32) ≤ y2_2 → post (A_ring_L2, A_buffer_L2, A_firstPlace_L2, A_forcedPlace_L2, A_endPlace_L2, A_wordsToFailure_L2, A_opened_L2)) ∧ (¬ (200 : Int32) ≤ y2_2 → vp_in y2_2 200 ∧ (wp_X0_addWord (fun u_2 => match u_2 with | (A_ring_2, A_buffer_2, A_firstPlace_2, A_forcedPlace_2, A_endPlace_2, A_wordsToFailure_2, A_opened_2) => wl_X0_addContent_2 post k2_1 n2 (y2_2 + (1 : Int32)) A_ring_2 A_buffer_2 A_firstPlace_2 A_forcedPlace_2 A_endPlace_2 A_wordsToFailure_2 A_opened_2) (A_buffer_L2 y2_2.toNatClampNeg) A_ring_L2 A_buffer_L2 A_firstPlace_L2 A_forcedPlace_L2 A_endPlace_L2 A_wordsToFailure_L2 A_opened_L2)))))
def wp_X0_addContent (post : St_A → Prop) (x1 : Int32) (A_ring : Nat → Int32) (A_buffer : Nat → Int32) (A_firstPlace : Int32) (A_forcedPlace : Int32) (A_endPlace : Int32) (A_wordsToFailure : Int32) (A_opened : Int32) : Prop :=
  ∃ n, wl_X0_addContent_2 post x1 n (0 : Int32) A_ring A_buffer A_firstPlace A_forcedPlace A_endPlace A_wordsToFailure A_opened
set_option maxHeartbeats 4000000 in
set_option maxRecDepth 100000 in
theorem met_X0_addContent (l : Launch) (dC : Nat → ClassId) (dI : Nat → Nat → Nat) (qA qA_ring qA_buffer : Nat) (cA_ring cA_buffer : ClassId) (sz : Nat) (A_ring : Nat → Int32) (A_buffer : Nat → Int32) (A_firstPlace : Int32) (A_forcedPlace : Int32) (A_endPlace : Int32) (A_wordsToFailure : Int32) (A_opened : Int32) (x1 : Int32) (post : St_A → Prop) (hw : wp_X0_addContent post x1 A_ring A_buffer A_firstPlace A_forcedPlace A_endPlace A_wordsToFailure A_opened) :
    Met l yX0_addContent wsX0_addContent ({ frames := 1, cells := 0, slots := 0, locals := 21 } : Room) (pcW_A dC dI qA qA_ring qA_buffer cA_ring cA_buffer sz A_ring A_buffer A_firstPlace A_forcedPlace A_endPlace A_wordsToFailure A_opened [.ref qA, .int x1]) (va_Qv post (at_A dC dI (va_A [(qA, .inr (0, [.ref qA_ring, .ref qA_buffer, .int A_firstPlace, .int A_forcedPlace, .int A_endPlace, .int A_wordsToFailure, .int A_opened])), (qA_ring, .inl (cA_ring, 65536, .inl A_ring)), (qA_buffer, .inl (cA_buffer, 200, .inl A_buffer))] sz) qA qA_ring qA_buffer cA_ring cA_buffer) (va_A [(qA, .inr (0, [.ref qA_ring, .ref qA_buffer, .int A_firstPlace, .int A_forcedPlace, .int A_endPlace, .int A_wordsToFailure, .int A_opened])), (qA_ring, .inl (cA_ring, 65536, .inl A_ring)), (qA_buffer, .inl (cA_buffer, 200, .inl A_buffer))] sz)) 0 0 (va_A [(qA, .inr (0, [.ref qA_ring, .ref qA_buffer, .int A_firstPlace, .int A_forcedPlace, .int A_endPlace, .int A_wordsToFailure, .int A_opened])), (qA_ring, .inl (cA_ring, 65536, .inl A_ring)), (qA_buffer, .inl (cA_buffer, 200, .inl A_buffer))] sz) := by
  refine Met.ofW (cc := cX0_addContent) (maxL := 3) (ret := none) (by decide) rfl ?_
  intro p e s m args below meth c s₁ B hml hv
  obtain ⟨hav, hsz, hP, hK, hD0⟩ := hv
  have hx := B.exec
  have hb := B.bytes
  have hr := B.returns
  have hts := atoms_spec (ws := wsX0_addContent) B.pre
  have hbg : ∀ w ∈ bigW, w.before args s = true := fun w h => hts w (List.mem_cons_of_mem _ h)
  have hown : s.vm.findClass RX0 = some m.cls := findClass_of_methodNamed B.named
  have hlocks := B.notSynchronized
  subst hsz
  have hD := hD0.self (sz := s.heap.size)
  generalize hAe : va_A [(qA, .inr (0, [.ref qA_ring, .ref qA_buffer, .int A_firstPlace, .int A_forcedPlace, .int A_endPlace, .int A_wordsToFailure, .int A_opened])), (qA_ring, .inl (cA_ring, 65536, .inl A_ring)), (qA_buffer, .inl (cA_buffer, 200, .inl A_buffer))] s.heap.size = A at hD ⊢
  have hA : ∀ q : Nat, s.heap.size ≤ q → A q := fun q h => by rw [← hAe]; exact Or.inr h
  have hS : va_S A s.heap s.heap [] := va_S.rf
  have hP : va_P (dC, dI) vwCl [(qA, .inr (0, [.ref qA_ring, .ref qA_buffer, .int A_firstPlace, .int A_forcedPlace, .int A_endPlace, .int A_wordsToFailure, .int A_opened])), (qA_ring, .inl (cA_ring, 65536, .inl A_ring)), (qA_buffer, .inl (cA_buffer, 200, .inl A_buffer))] s.heap := hP
  generalize hQQ : MQ below (va_Qv post (at_A dC dI A qA qA_ring qA_buffer cA_ring cA_buffer) A) args s 0 0 A = QQ
  have hl := lv_entry ([.ref qA, .int x1]) (n := 3) (Nat.le_of_ble_eq_true rfl)
  rw [show entryFrame m args 3 = entryFrame m ([.ref qA, .int x1] : List Value).toArray 3 by rw [hav], lg_entry_eq]
  generalize (lg_sl ([.ref qA, .int x1]) ++ List.replicate (3 - (lg_sl ([.ref qA, .int x1])).length) Slot.unset).toArray = ls at hl ⊢
  have hl : lv_has ls 3 [(0, .ref qA), (1, .int x1)] := hl
  unfold wp_X0_addContent at hw
  have hL2 : ∀ (n2 : Nat) (k2_1 : Int32) (y2_2 : Int32) (A_ring_L2 : Nat → Int32) (A_buffer_L2 : Nat → Int32) (A_firstPlace_L2 : Int32) (A_forcedPlace_L2 : Int32) (A_endPlace_L2 : Int32) (A_wordsToFailure_L2 : Int32) (A_opened_L2 : Int32), wl_X0_addContent_2 post k2_1 n2 y2_2 A_ring_L2 A_buffer_L2 A_firstPlace_L2 A_forcedPlace_L2 A_endPlace_L2 A_wordsToFailure_L2 A_opened_L2 → ∀ (H : Heap) (locs : List Loc), va_P (dC, dI) vwCl [(qA, .inr (0, [.ref qA_ring, .ref qA_buffer, .int A_firstPlace_L2, .int A_forcedPlace_L2, .int A_endPlace_L2, .int A_wordsToFailure_L2, .int A_opened_L2])), (qA_ring, .inl (cA_ring, 65536, .inl A_ring_L2)), (qA_buffer, .inl (cA_buffer, 200, .inl A_buffer_L2))] H → va_D A [(qA, .inr (0, [.ref qA_ring, .ref qA_buffer, .int A_firstPlace_L2, .int A_forcedPlace_L2, .int A_endPlace_L2, .int A_wordsToFailure_L2, .int A_opened_L2])), (qA_ring, .inl (cA_ring, 65536, .inl A_ring_L2)), (qA_buffer, .inl (cA_buffer, 200, .inl A_buffer_L2))] → va_S A s.heap H locs → ∀ ls : Array Slot, lv_has ls 3 [(0, .ref qA), (1, .int k2_1), (2, .int y2_2)] → W p l e (headSpec wsX0_addContent ({ frames := 1, cells := 0, slots := 0, locals := 21 } : Room)).room s m args below meth c H locs 0 0 QQ (F0 m 2 ls []) := by
    intro n2
    induction n2 with
    | zero => intro k2_1 y2_2 A_ring_L2 A_buffer_L2 A_firstPlace_L2 A_forcedPlace_L2 A_endPlace_L2 A_wordsToFailure_L2 A_opened_L2 hw; exact False.elim hw
    | succ n2 ih2 =>
      intro k2_1 y2_2 A_ring_L2 A_buffer_L2 A_firstPlace_L2 A_forcedPlace_L2 A_endPlace_L2 A_wordsToFailure_L2 A_opened_L2 hw H locs hP hD hS ls hl
      rw [wl_X0_addContent_2] at hw
      refine lv_iload_n hx hb dX0_addContent_2 rfl (lv_at hl 2 rfl) ?_
      refine lv_iload_n hx hb dX0_addContent_3 rfl (lv_at hl 1 rfl) ?_
      refine lv_icmp_ge (tgt := 32) hx hb dX0_addContent_4 (by decide) (fun c9 => ?_) (fun c9 => ?_)
      · have hw := hw.1 c9
        subst hQQ
        exact W.vret hx hb hr (fun t ht hW => ⟨⟨(A_ring_L2, A_buffer_L2, A_firstPlace_L2, A_forcedPlace_L2, A_endPlace_L2, A_wordsToFailure_L2, A_opened_L2), rfl, hw, by rw [ht]; exact hP, va_K.moved hW.alike hK, hD⟩, hS.F ht⟩) hS.2.2 dX0_addContent_32
      · have hw := hw.2 c9
        refine lv_iload_n hx hb dX0_addContent_7 rfl (lv_at hl 2 rfl) ?_
        refine lv_aload_n hx hb dX0_addContent_8 rfl (lv_at hl 0 rfl) ?_
        refine va_get (D := (dC, dI)) (ci := 0) (v := .ref qA_buffer) (C := RX0) (T := TX0) (N := 7) hx hb hbg in_X0 hown hK hP 0 rfl rfl 1 (by decide) (hbg _ kw_46) (fun _ h9 => h9) rfl dX0_addContent_9 ?_
        refine va_alen (v := (200 : Int32)) hx hb hK hP 2 1 rfl rfl rfl dX0_addContent_12 ?_
        refine lv_icmp_ge (tgt := 32) hx hb dX0_addContent_13 (by decide) (fun c9 => ?_) (fun c9 => ?_)
        · have hw := hw.1 c9
          subst hQQ
          exact W.vret hx hb hr (fun t ht hW => ⟨⟨(A_ring_L2, A_buffer_L2, A_firstPlace_L2, A_forcedPlace_L2, A_endPlace_L2, A_wordsToFailure_L2, A_opened_L2), rfl, hw, by rw [ht]; exact hP, va_K.moved hW.alike hK, hD⟩, hS.F ht⟩) hS.2.2 dX0_addContent_32
        · have hw := hw.2 c9
          refine lv_aload_n hx hb dX0_addContent_16 rfl (lv_at hl 0 rfl) ?_
          refine lv_aload_n hx hb dX0_addContent_17 rfl (lv_at hl 0 rfl) ?_
          refine va_get (D := (dC, dI)) (ci := 0) (v := .ref qA_buffer) (C := RX0) (T := TX0) (N := 7) hx hb hbg in_X0 hown hK hP 0 rfl rfl 1 (by decide) (hbg _ kw_46) (fun _ h9 => h9) rfl dX0_addContent_18 ?_
          refine lv_iload_n hx hb dX0_addContent_21 rfl (lv_at hl 2 rfl) ?_
          obtain ⟨h_1, hw⟩ := hw
          refine va_iald hx hb hK hP 2 1 rfl rfl h_1 dX0_addContent_22 ?_
          have hFc := va_free (wc := [(qA, .inr (0, [.ref qA_ring, .ref qA_buffer, .int A_firstPlace_L2, .int A_forcedPlace_L2, .int A_endPlace_L2, .int A_wordsToFailure_L2, .int A_opened_L2])), (qA_ring, .inl (cA_ring, 65536, .inl A_ring_L2)), (qA_buffer, .inl (cA_buffer, 200, .inl A_buffer_L2))]) hD hS hA [0, 1, 2] rfl
          refine va_callv (va_runV (As := [.int (A_buffer_L2 y2_2.toNatClampNeg)]) (rest := []) ⟨hx, hb, hml, hown, hbg⟩ (met_X0_addWord l dC dI qA qA_ring qA_buffer cA_ring cA_buffer H.size A_ring_L2 A_buffer_L2 A_firstPlace_L2 A_forcedPlace_L2 A_endPlace_L2 A_wordsToFailure_L2 A_opened_L2 (A_buffer_L2 y2_2.toNatClampNeg) _ hw) (cwV 1 hbg g_RX0_65 rfl rfl rfl (by decide +kernel) ⟨Nat.le_of_ble_eq_true rfl, Nat.le_of_ble_eq_true rfl⟩) ⟨pcW_A_b _ _ _ _ _ _ _ _ _ _ _ _ _ _ _ _, va_recv hK hP (ci := 0) (q0 := 0) rfl rfl, fun U hU hW => ⟨rfl, by rw [hU], by rw [hU]; exact hP, va_K.moved hW.alike hK, hD.weaken (fun _ _ _ _ => trivial)⟩⟩ rfl rfl hl.1 rfl (lv_room (Nat.le_of_ble_eq_true rfl)) dX0_addContent_23 ⟨Nat.le_of_ble_eq_true rfl, Nat.le_of_ble_eq_true rfl⟩) hS (fun q _ h => hFc q h) hFc (fun u_2 t_2 H_2 locs ht hvm hw hB hz1 hk1 hS => ?_)
          obtain ⟨A_ring_2, A_buffer_2, A_firstPlace_2, A_forcedPlace_2, A_endPlace_2, A_wordsToFailure_2, A_opened_2⟩ := u_2
          obtain ⟨hP1, hK1, hD1⟩ := hB
          rw [ht] at hP1
          try dsimp only at hw
          have hP : va_P (dC, dI) vwCl [(qA, .inr (0, [.ref qA_ring, .ref qA_buffer, .int A_firstPlace_2, .int A_forcedPlace_2, .int A_endPlace_2, .int A_wordsToFailure_2, .int A_opened_2])), (qA_ring, .inl (cA_ring, 65536, .inl A_ring_2)), (qA_buffer, .inl (cA_buffer, 200, .inl A_buffer_2))] H_2 := hP1
          have hD : va_D A [(qA, .inr (0, [.ref qA_ring, .ref qA_buffer, .int A_firstPlace_2, .int A_forcedPlace_2, .int A_endPlace_2, .int A_wordsToFailure_2, .int A_opened_2])), (qA_ring, .inl (cA_ring, 65536, .inl A_ring_2)), (qA_buffer, .inl (cA_buffer, 200, .inl A_buffer_2))] := hD1.weaken (fun _ _ _ h => hFc _ h)
          refine lv_iinc (v := y2_2 + (1 : Int32)) (lv' := [(2, .int (y2_2 + (1 : Int32))), (0, .ref qA), (1, .int k2_1)]) hx hb dX0_addContent_26 hl (k := 2) rfl rfl (by decide) rfl (fun ls hl => ?_)
          refine lv_goto (tgt := 2) hx hb dX0_addContent_29 (by decide) ?_
          exact ih2 k2_1 (y2_2 + (1 : Int32)) A_ring_2 A_buffer_2 A_firstPlace_2 A_forcedPlace_2 A_endPlace_2 A_wordsToFailure_2 A_opened_2 hw _ _ hP hD hS ls (lv_sub hl [1, 2, 0] rfl)
  refine lv_iconst (v := (0 : Int32)) hx hb dX0_addContent_0 (by decide) ?_
  refine lv_istore_n (lv' := [(2, .int (0 : Int32)), (0, .ref qA), (1, .int x1)]) hx hb dX0_addContent_1 rfl hl (by decide) rfl (fun ls hl => ?_)
  obtain ⟨n9, hw⟩ := hw
  exact hL2 n9 x1 (0 : Int32) A_ring A_buffer A_firstPlace A_forcedPlace A_endPlace A_wordsToFailure A_opened hw _ _ hP hD hS ls (lv_sub hl [1, 2, 0] rfl)
def wp_X0_losePower (post : St_A → Prop) (A_ring : Nat → Int32) (A_buffer : Nat → Int32) (A_firstPlace : Int32) (A_forcedPlace : Int32) (A_endPlace : Int32) (A_wordsToFailure : Int32) (A_opened : Int32) : Prop :=
  wp_X0_fillBuffer (fun u_4 => match u_4 with | (A_ring_4, A_buffer_4, A_firstPlace_4, A_forcedPlace_4, A_endPlace_4, A_wordsToFailure_4, A_opened_4) => post (A_ring_4, A_buffer_4, A_firstPlace_4, A_forcedPlace_4, A_endPlace_4, A_wordsToFailure_4, A_opened_4)) (0 : Int32) (0 : Int32) A_ring A_buffer A_firstPlace A_forcedPlace A_forcedPlace (-1 : Int32) (0 : Int32)
set_option maxHeartbeats 4000000 in
set_option maxRecDepth 100000 in
theorem met_X0_losePower (l : Launch) (dC : Nat → ClassId) (dI : Nat → Nat → Nat) (qA qA_ring qA_buffer : Nat) (cA_ring cA_buffer : ClassId) (sz : Nat) (A_ring : Nat → Int32) (A_buffer : Nat → Int32) (A_firstPlace : Int32) (A_forcedPlace : Int32) (A_endPlace : Int32) (A_wordsToFailure : Int32) (A_opened : Int32) (post : St_A → Prop) (hw : wp_X0_losePower post A_ring A_buffer A_firstPlace A_forcedPlace A_endPlace A_wordsToFailure A_opened) :
    Met l yX0_losePower wsX0_losePower ({ frames := 1, cells := 0, slots := 0, locals := 23 } : Room) (pcW_A dC dI qA qA_ring qA_buffer cA_ring cA_buffer sz A_ring A_buffer A_firstPlace A_forcedPlace A_endPlace A_wordsToFailure A_opened [.ref qA]) (va_Qv post (at_A dC dI (va_A [(qA, .inr (0, [.ref qA_ring, .ref qA_buffer, .int A_firstPlace, .int A_forcedPlace, .int A_endPlace, .int A_wordsToFailure, .int A_opened])), (qA_ring, .inl (cA_ring, 65536, .inl A_ring)), (qA_buffer, .inl (cA_buffer, 200, .inl A_buffer))] sz) qA qA_ring qA_buffer cA_ring cA_buffer) (va_A [(qA, .inr (0, [.ref qA_ring, .ref qA_buffer, .int A_firstPlace, .int A_forcedPlace, .int A_endPlace, .int A_wordsToFailure, .int A_opened])), (qA_ring, .inl (cA_ring, 65536, .inl A_ring)), (qA_buffer, .inl (cA_buffer, 200, .inl A_buffer))] sz)) 0 0 (va_A [(qA, .inr (0, [.ref qA_ring, .ref qA_buffer, .int A_firstPlace, .int A_forcedPlace, .int A_endPlace, .int A_wordsToFailure, .int A_opened])), (qA_ring, .inl (cA_ring, 65536, .inl A_ring)), (qA_buffer, .inl (cA_buffer, 200, .inl A_buffer))] sz) := by
  refine Met.ofW (cc := cX0_losePower) (maxL := 1) (ret := none) (by decide) rfl ?_
  intro p e s m args below meth c s₁ B hml hv
  obtain ⟨hav, hsz, hP, hK, hD0⟩ := hv
  have hx := B.exec
  have hb := B.bytes
  have hr := B.returns
  have hts := atoms_spec (ws := wsX0_losePower) B.pre
  have hbg : ∀ w ∈ bigW, w.before args s = true := fun w h => hts w (List.mem_cons_of_mem _ h)
  have hown : s.vm.findClass RX0 = some m.cls := findClass_of_methodNamed B.named
  have hlocks := B.notSynchronized
  subst hsz
  have hD := hD0.self (sz := s.heap.size)
  generalize hAe : va_A [(qA, .inr (0, [.ref qA_ring, .ref qA_buffer, .int A_firstPlace, .int A_forcedPlace, .int A_endPlace, .int A_wordsToFailure, .int A_opened])), (qA_ring, .inl (cA_ring, 65536, .inl A_ring)), (qA_buffer, .inl (cA_buffer, 200, .inl A_buffer))] s.heap.size = A at hD ⊢
  have hA : ∀ q : Nat, s.heap.size ≤ q → A q := fun q h => by rw [← hAe]; exact Or.inr h
  have hS : va_S A s.heap s.heap [] := va_S.rf
  have hP : va_P (dC, dI) vwCl [(qA, .inr (0, [.ref qA_ring, .ref qA_buffer, .int A_firstPlace, .int A_forcedPlace, .int A_endPlace, .int A_wordsToFailure, .int A_opened])), (qA_ring, .inl (cA_ring, 65536, .inl A_ring)), (qA_buffer, .inl (cA_buffer, 200, .inl A_buffer))] s.heap := hP
  generalize hQQ : MQ below (va_Qv post (at_A dC dI A qA qA_ring qA_buffer cA_ring cA_buffer) A) args s 0 0 A = QQ
  have hl := lv_entry ([.ref qA]) (n := 1) (Nat.le_of_ble_eq_true rfl)
  rw [show entryFrame m args 1 = entryFrame m ([.ref qA] : List Value).toArray 1 by rw [hav], lg_entry_eq]
  generalize (lg_sl ([.ref qA]) ++ List.replicate (1 - (lg_sl ([.ref qA])).length) Slot.unset).toArray = ls at hl ⊢
  have hl : lv_has ls 1 [(0, .ref qA)] := hl
  unfold wp_X0_losePower at hw
  refine lv_aload_n hx hb dX0_losePower_0 rfl (lv_at hl 0 rfl) ?_
  refine lv_aload_n hx hb dX0_losePower_1 rfl (lv_at hl 0 rfl) ?_
  refine va_get (D := (dC, dI)) (ci := 0) (v := .int A_forcedPlace) (C := RX0) (T := TX0) (N := 7) hx hb hbg in_X0 hown hK hP 0 rfl rfl 3 (by decide) (hbg _ kw_51) (fun _ h9 => h9) rfl dX0_losePower_2 ?_
  refine va_put (D := (dC, dI)) (ci := 0) (v := .int A_forcedPlace) (ty := .int) (C := RX0) (T := TX0) (N := 7) hx hb hbg in_X0 tyX0 tyX0_ok nmX0 hown hK hP hD hS 0 rfl rfl 4 (by decide) (hbg _ kw_12) (fun _ h9 => h9) rfl (by decide +kernel) rfl rfl (Nat.le_of_ble_eq_true rfl) dX0_losePower_5 (fun H_1 locs hP hD hS => ?_)
  have hP : va_P (dC, dI) vwCl [(qA, .inr (0, [.ref qA_ring, .ref qA_buffer, .int A_firstPlace, .int A_forcedPlace, .int A_forcedPlace, .int A_wordsToFailure, .int A_opened])), (qA_ring, .inl (cA_ring, 65536, .inl A_ring)), (qA_buffer, .inl (cA_buffer, 200, .inl A_buffer))] H_1 := hP
  have hD : va_D A [(qA, .inr (0, [.ref qA_ring, .ref qA_buffer, .int A_firstPlace, .int A_forcedPlace, .int A_forcedPlace, .int A_wordsToFailure, .int A_opened])), (qA_ring, .inl (cA_ring, 65536, .inl A_ring)), (qA_buffer, .inl (cA_buffer, 200, .inl A_buffer))] := hD
  refine lv_aload_n hx hb dX0_losePower_8 rfl (lv_at hl 0 rfl) ?_
  refine lv_iconst (v := (-1 : Int32)) hx hb dX0_losePower_9 (by decide) ?_
  refine va_put (D := (dC, dI)) (ci := 0) (v := .int (-1 : Int32)) (ty := .int) (C := RX0) (T := TX0) (N := 7) hx hb hbg in_X0 tyX0 tyX0_ok nmX0 hown hK hP hD hS 0 rfl rfl 5 (by decide) (hbg _ kw_52) (fun _ h9 => h9) rfl (by decide +kernel) rfl rfl (Nat.le_of_ble_eq_true rfl) dX0_losePower_10 (fun H_2 locs hP hD hS => ?_)
  have hP : va_P (dC, dI) vwCl [(qA, .inr (0, [.ref qA_ring, .ref qA_buffer, .int A_firstPlace, .int A_forcedPlace, .int A_forcedPlace, .int (-1 : Int32), .int A_opened])), (qA_ring, .inl (cA_ring, 65536, .inl A_ring)), (qA_buffer, .inl (cA_buffer, 200, .inl A_buffer))] H_2 := hP
  have hD : va_D A [(qA, .inr (0, [.ref qA_ring, .ref qA_buffer, .int A_firstPlace, .int A_forcedPlace, .int A_forcedPlace, .int (-1 : Int32), .int A_opened])), (qA_ring, .inl (cA_ring, 65536, .inl A_ring)), (qA_buffer, .inl (cA_buffer, 200, .inl A_buffer))] := hD
  refine lv_aload_n hx hb dX0_losePower_13 rfl (lv_at hl 0 rfl) ?_
  refine lv_iconst (v := (0 : Int32)) hx hb dX0_losePower_14 (by decide) ?_
  refine va_put (D := (dC, dI)) (ci := 0) (v := .int (0 : Int32)) (ty := .boolean) (C := RX0) (T := TX0) (N := 7) hx hb hbg in_X0 tyX0 tyX0_ok nmX0 hown hK hP hD hS 0 rfl rfl 6 (by decide) (hbg _ kw_45) (fun _ h9 => h9) rfl (by decide +kernel) rfl rfl (Nat.le_of_ble_eq_true rfl) dX0_losePower_15 (fun H_3 locs hP hD hS => ?_)
  have hP : va_P (dC, dI) vwCl [(qA, .inr (0, [.ref qA_ring, .ref qA_buffer, .int A_firstPlace, .int A_forcedPlace, .int A_forcedPlace, .int (-1 : Int32), .int (0 : Int32)])), (qA_ring, .inl (cA_ring, 65536, .inl A_ring)), (qA_buffer, .inl (cA_buffer, 200, .inl A_buffer))] H_3 := hP
  have hD : va_D A [(qA, .inr (0, [.ref qA_ring, .ref qA_buffer, .int A_firstPlace, .int A_forcedPlace, .int A_forcedPlace, .int (-1 : Int32), .int (0 : Int32)])), (qA_ring, .inl (cA_ring, 65536, .inl A_ring)), (qA_buffer, .inl (cA_buffer, 200, .inl A_buffer))] := hD
  refine lv_aload_n hx hb dX0_losePower_18 rfl (lv_at hl 0 rfl) ?_
  refine lv_iconst (v := (0 : Int32)) hx hb dX0_losePower_19 (by decide) ?_
  refine lv_iconst (v := (0 : Int32)) hx hb dX0_losePower_20 (by decide) ?_
  have hFc := va_free (wc := [(qA, .inr (0, [.ref qA_ring, .ref qA_buffer, .int A_firstPlace, .int A_forcedPlace, .int A_forcedPlace, .int (-1 : Int32), .int (0 : Int32)])), (qA_ring, .inl (cA_ring, 65536, .inl A_ring)), (qA_buffer, .inl (cA_buffer, 200, .inl A_buffer))]) hD hS hA [0, 1, 2] rfl
  refine va_callv (va_runV (As := [.int (0 : Int32), .int (0 : Int32)]) (rest := []) ⟨hx, hb, hml, hown, hbg⟩ (met_X0_fillBuffer l dC dI qA qA_ring qA_buffer cA_ring cA_buffer H_3.size A_ring A_buffer A_firstPlace A_forcedPlace A_forcedPlace (-1 : Int32) (0 : Int32) (0 : Int32) (0 : Int32) _ hw) (cwV 2 hbg g_RX0_44 rfl rfl rfl (by decide +kernel) ⟨Nat.le_of_ble_eq_true rfl, Nat.le_of_ble_eq_true rfl⟩) ⟨pcW_A_b _ _ _ _ _ _ _ _ _ _ _ _ _ _ _ _, va_recv hK hP (ci := 0) (q0 := 0) rfl rfl, fun U hU hW => ⟨rfl, by rw [hU], by rw [hU]; exact hP, va_K.moved hW.alike hK, hD.weaken (fun _ _ _ _ => trivial)⟩⟩ rfl rfl hl.1 rfl (lv_room (Nat.le_of_ble_eq_true rfl)) dX0_losePower_21 ⟨Nat.le_of_ble_eq_true rfl, Nat.le_of_ble_eq_true rfl⟩) hS (fun q _ h => hFc q h) hFc (fun u_4 t_4 H_4 locs ht hvm hw hB hz1 hk1 hS => ?_)
  obtain ⟨A_ring_4, A_buffer_4, A_firstPlace_4, A_forcedPlace_4, A_endPlace_4, A_wordsToFailure_4, A_opened_4⟩ := u_4
  obtain ⟨hP1, hK1, hD1⟩ := hB
  rw [ht] at hP1
  try dsimp only at hw
  have hP : va_P (dC, dI) vwCl [(qA, .inr (0, [.ref qA_ring, .ref qA_buffer, .int A_firstPlace_4, .int A_forcedPlace_4, .int A_endPlace_4, .int A_wordsToFailure_4, .int A_opened_4])), (qA_ring, .inl (cA_ring, 65536, .inl A_ring_4)), (qA_buffer, .inl (cA_buffer, 200, .inl A_buffer_4))] H_4 := hP1
  have hD : va_D A [(qA, .inr (0, [.ref qA_ring, .ref qA_buffer, .int A_firstPlace_4, .int A_forcedPlace_4, .int A_endPlace_4, .int A_wordsToFailure_4, .int A_opened_4])), (qA_ring, .inl (cA_ring, 65536, .inl A_ring_4)), (qA_buffer, .inl (cA_buffer, 200, .inl A_buffer_4))] := hD1.weaken (fun _ _ _ h => hFc _ h)
  subst hQQ
  exact W.vret hx hb hr (fun t ht hW => ⟨⟨(A_ring_4, A_buffer_4, A_firstPlace_4, A_forcedPlace_4, A_endPlace_4, A_wordsToFailure_4, A_opened_4), rfl, hw, by rw [ht]; exact hP, va_K.moved hW.alike hK, hD⟩, hS.F ht⟩) hS.2.2 dX0_losePower_24
def wc_X0_writeUpTo_31 (post : Int32 → St_A → Prop) (k31_1 : Int32) (k31_2 : Int32) (z31_0 : Int32) (A_ring_L31 : Nat → Int32) (A_buffer_L31 : Nat → Int32) (A_firstPlace_L31 : Int32) (A_forcedPlace_L31 : Int32) (A_endPlace_L31 : Int32) (A_wordsToFailure_L31 : Int32) (A_opened_L31 : Int32) : Prop :=
    ((k31_2 ≤ z31_0 → ((A_wordsToFailure_L31 = (-1 : Int32) → post z31_0 (A_ring_L31, A_buffer_L31, A_firstPlace_L31, A_forcedPlace_L31 + z31_0, A_endPlace_L31, A_wordsToFailure_L31, A_opened_L31)) ∧ (¬ A_wordsToFailure_L31 = (-1 : Int32) → post z31_0 (A_ring_L31, A_buffer_L31, A_firstPlace_L31, A_forcedPlace_L31 + z31_0, A_endPlace_L31, A_wordsToFailure_L31 - z31_0, A_opened_L31)))) ∧ (¬ k31_2 ≤ z31_0 → wp_X0_losePower (fun u_3 => match u_3 with | (A_ring_3, A_buffer_3, A_firstPlace_3, A_forcedPlace_3, A_endPlace_3, A_wordsToFailure_3, A_opened_3) => post (-1 : Int32) (A_ring_3, A_buffer_3, A_firstPlace_3, A_forcedPlace_3, A_endPlace_3, A_wordsToFailure_3, A_opened_3)) A_ring_L31 A_buffer_L31 A_firstPlace_L31 (A_forcedPlace_L31 + z31_0) A_endPlace_L31 A_wordsToFailure_L31 A_opened_L31))
def wp_X0_writeUpTo (post : Int32 → St_A → Prop) (x1 : Int32) (A_ring : Nat → Int32) (A_buffer : Nat → Int32) (A_firstPlace : Int32) (A_forcedPlace : Int32) (A_endPlace : Int32) (A_wordsToFailure : Int32) (A_opened : Int32) : Prop :=
  (∀ v2_4 : Int32, v2_4 = (if (x1 - A_forcedPlace) < (0 : Int32) then (0 : Int32) else (x1 - A_forcedPlace)) → ((A_wordsToFailure = (-1 : Int32) → wc_X0_writeUpTo_31 post x1 v2_4 v2_4 A_ring A_buffer A_firstPlace A_forcedPlace A_endPlace A_wordsToFailure A_opened) ∧ (¬ A_wordsToFailure = (-1 : Int32) → wc_X0_writeUpTo_31 post x1 v2_4 (if A_wordsToFailure < v2_4 then A_wordsToFailure else v2_4) A_ring A_buffer A_firstPlace A_forcedPlace A_endPlace A_wordsToFailure A_opened)))
set_option maxHeartbeats 4000000 in
set_option maxRecDepth 100000 in
theorem met_X0_writeUpTo (l : Launch) (dC : Nat → ClassId) (dI : Nat → Nat → Nat) (qA qA_ring qA_buffer : Nat) (cA_ring cA_buffer : ClassId) (sz : Nat) (A_ring : Nat → Int32) (A_buffer : Nat → Int32) (A_firstPlace : Int32) (A_forcedPlace : Int32) (A_endPlace : Int32) (A_wordsToFailure : Int32) (A_opened : Int32) (x1 : Int32) (post : Int32 → St_A → Prop) (hw : wp_X0_writeUpTo post x1 A_ring A_buffer A_firstPlace A_forcedPlace A_endPlace A_wordsToFailure A_opened) :
    Met l yX0_writeUpTo wsX0_writeUpTo ({ frames := 2, cells := 0, slots := 0, locals := 43 } : Room) (pcW_A dC dI qA qA_ring qA_buffer cA_ring cA_buffer sz A_ring A_buffer A_firstPlace A_forcedPlace A_endPlace A_wordsToFailure A_opened [.ref qA, .int x1]) (va_Qi post (at_A dC dI (va_A [(qA, .inr (0, [.ref qA_ring, .ref qA_buffer, .int A_firstPlace, .int A_forcedPlace, .int A_endPlace, .int A_wordsToFailure, .int A_opened])), (qA_ring, .inl (cA_ring, 65536, .inl A_ring)), (qA_buffer, .inl (cA_buffer, 200, .inl A_buffer))] sz) qA qA_ring qA_buffer cA_ring cA_buffer) (va_A [(qA, .inr (0, [.ref qA_ring, .ref qA_buffer, .int A_firstPlace, .int A_forcedPlace, .int A_endPlace, .int A_wordsToFailure, .int A_opened])), (qA_ring, .inl (cA_ring, 65536, .inl A_ring)), (qA_buffer, .inl (cA_buffer, 200, .inl A_buffer))] sz)) 0 0 (va_A [(qA, .inr (0, [.ref qA_ring, .ref qA_buffer, .int A_firstPlace, .int A_forcedPlace, .int A_endPlace, .int A_wordsToFailure, .int A_opened])), (qA_ring, .inl (cA_ring, 65536, .inl A_ring)), (qA_buffer, .inl (cA_buffer, 200, .inl A_buffer))] sz) := by
  refine Met.ofW (cc := cX0_writeUpTo) (maxL := 4) (ret := (some .int)) (by decide) rfl ?_
  intro p e s m args below meth c s₁ B hml hv
  obtain ⟨hav, hsz, hP, hK, hD0⟩ := hv
  have hx := B.exec
  have hb := B.bytes
  have hr := B.returns
  have hts := atoms_spec (ws := wsX0_writeUpTo) B.pre
  have hbg : ∀ w ∈ bigW, w.before args s = true := fun w h => hts w (List.mem_cons_of_mem _ h)
  have hown : s.vm.findClass RX0 = some m.cls := findClass_of_methodNamed B.named
  have hlocks := B.notSynchronized
  subst hsz
  have hD := hD0.self (sz := s.heap.size)
  generalize hAe : va_A [(qA, .inr (0, [.ref qA_ring, .ref qA_buffer, .int A_firstPlace, .int A_forcedPlace, .int A_endPlace, .int A_wordsToFailure, .int A_opened])), (qA_ring, .inl (cA_ring, 65536, .inl A_ring)), (qA_buffer, .inl (cA_buffer, 200, .inl A_buffer))] s.heap.size = A at hD ⊢
  have hA : ∀ q : Nat, s.heap.size ≤ q → A q := fun q h => by rw [← hAe]; exact Or.inr h
  have hS : va_S A s.heap s.heap [] := va_S.rf
  have hP : va_P (dC, dI) vwCl [(qA, .inr (0, [.ref qA_ring, .ref qA_buffer, .int A_firstPlace, .int A_forcedPlace, .int A_endPlace, .int A_wordsToFailure, .int A_opened])), (qA_ring, .inl (cA_ring, 65536, .inl A_ring)), (qA_buffer, .inl (cA_buffer, 200, .inl A_buffer))] s.heap := hP
  generalize hQQ : MQ below (va_Qi post (at_A dC dI A qA qA_ring qA_buffer cA_ring cA_buffer) A) args s 0 0 A = QQ
  have hl := lv_entry ([.ref qA, .int x1]) (n := 4) (Nat.le_of_ble_eq_true rfl)
  rw [show entryFrame m args 4 = entryFrame m ([.ref qA, .int x1] : List Value).toArray 4 by rw [hav], lg_entry_eq]
  generalize (lg_sl ([.ref qA, .int x1]) ++ List.replicate (4 - (lg_sl ([.ref qA, .int x1])).length) Slot.unset).toArray = ls at hl ⊢
  have hl : lv_has ls 4 [(0, .ref qA), (1, .int x1)] := hl
  unfold wp_X0_writeUpTo at hw
  have hC31 : ∀ (k31_1 : Int32) (k31_2 : Int32) (z31_0 : Int32) (A_ring_L31 : Nat → Int32) (A_buffer_L31 : Nat → Int32) (A_firstPlace_L31 : Int32) (A_forcedPlace_L31 : Int32) (A_endPlace_L31 : Int32) (A_wordsToFailure_L31 : Int32) (A_opened_L31 : Int32), wc_X0_writeUpTo_31 post k31_1 k31_2 z31_0 A_ring_L31 A_buffer_L31 A_firstPlace_L31 A_forcedPlace_L31 A_endPlace_L31 A_wordsToFailure_L31 A_opened_L31 → ∀ (H : Heap) (locs : List Loc), va_P (dC, dI) vwCl [(qA, .inr (0, [.ref qA_ring, .ref qA_buffer, .int A_firstPlace_L31, .int A_forcedPlace_L31, .int A_endPlace_L31, .int A_wordsToFailure_L31, .int A_opened_L31])), (qA_ring, .inl (cA_ring, 65536, .inl A_ring_L31)), (qA_buffer, .inl (cA_buffer, 200, .inl A_buffer_L31))] H → va_D A [(qA, .inr (0, [.ref qA_ring, .ref qA_buffer, .int A_firstPlace_L31, .int A_forcedPlace_L31, .int A_endPlace_L31, .int A_wordsToFailure_L31, .int A_opened_L31])), (qA_ring, .inl (cA_ring, 65536, .inl A_ring_L31)), (qA_buffer, .inl (cA_buffer, 200, .inl A_buffer_L31))] → va_S A s.heap H locs → ∀ ls : Array Slot, lv_has ls 4 [(0, .ref qA), (1, .int k31_1), (2, .int k31_2)] → W p l e (headSpec wsX0_writeUpTo ({ frames := 2, cells := 0, slots := 0, locals := 43 } : Room)).room s m args below meth c H locs 0 0 QQ (F0 m 31 ls [.int z31_0]) := by
    intro k31_1 k31_2 z31_0 A_ring_L31 A_buffer_L31 A_firstPlace_L31 A_forcedPlace_L31 A_endPlace_L31 A_wordsToFailure_L31 A_opened_L31 hw H locs hP hD hS ls hl
    unfold wc_X0_writeUpTo_31 at hw
    refine lv_istore_n (lv' := [(3, .int z31_0), (0, .ref qA), (1, .int k31_1), (2, .int k31_2)]) hx hb dX0_writeUpTo_31 rfl hl (by decide) rfl (fun ls hl => ?_)
    refine lv_aload_n hx hb dX0_writeUpTo_32 rfl (lv_at hl 1 rfl) ?_
    refine lv_dup hx hb dX0_writeUpTo_33 rfl ?_
    refine va_get (D := (dC, dI)) (ci := 0) (v := .int A_forcedPlace_L31) (C := RX0) (T := TX0) (N := 7) hx hb hbg in_X0 hown hK hP 0 rfl rfl 3 (by decide) (hbg _ kw_51) (fun _ h9 => h9) rfl dX0_writeUpTo_34 ?_
    refine lv_iload_n hx hb dX0_writeUpTo_37 rfl (lv_at hl 0 rfl) ?_
    refine lv_iadd hx hb dX0_writeUpTo_38 ?_
    refine va_put (D := (dC, dI)) (ci := 0) (v := .int (A_forcedPlace_L31 + z31_0)) (ty := .int) (C := RX0) (T := TX0) (N := 7) hx hb hbg in_X0 tyX0 tyX0_ok nmX0 hown hK hP hD hS 0 rfl rfl 3 (by decide) (hbg _ kw_51) (fun _ h9 => h9) rfl (by decide +kernel) rfl rfl (Nat.le_of_ble_eq_true rfl) dX0_writeUpTo_39 (fun H_1 locs hP hD hS => ?_)
    have hP : va_P (dC, dI) vwCl [(qA, .inr (0, [.ref qA_ring, .ref qA_buffer, .int A_firstPlace_L31, .int (A_forcedPlace_L31 + z31_0), .int A_endPlace_L31, .int A_wordsToFailure_L31, .int A_opened_L31])), (qA_ring, .inl (cA_ring, 65536, .inl A_ring_L31)), (qA_buffer, .inl (cA_buffer, 200, .inl A_buffer_L31))] H_1 := hP
    have hD : va_D A [(qA, .inr (0, [.ref qA_ring, .ref qA_buffer, .int A_firstPlace_L31, .int (A_forcedPlace_L31 + z31_0), .int A_endPlace_L31, .int A_wordsToFailure_L31, .int A_opened_L31])), (qA_ring, .inl (cA_ring, 65536, .inl A_ring_L31)), (qA_buffer, .inl (cA_buffer, 200, .inl A_buffer_L31))] := hD
    refine lv_iload_n hx hb dX0_writeUpTo_42 rfl (lv_at hl 0 rfl) ?_
    refine lv_iload_n hx hb dX0_writeUpTo_43 rfl (lv_at hl 3 rfl) ?_
    refine lv_icmp_ge (tgt := 53) hx hb dX0_writeUpTo_44 (by decide) (fun c9 => ?_) (fun c9 => ?_)
    · have hw := hw.1 c9
      refine lv_aload_n hx hb dX0_writeUpTo_53 rfl (lv_at hl 1 rfl) ?_
      refine va_get (D := (dC, dI)) (ci := 0) (v := .int A_wordsToFailure_L31) (C := RX0) (T := TX0) (N := 7) hx hb hbg in_X0 hown hK hP 0 rfl rfl 5 (by decide) (hbg _ kw_52) (fun _ h9 => h9) rfl dX0_writeUpTo_54 ?_
      refine lv_iconst (v := (-1 : Int32)) hx hb dX0_writeUpTo_57 (by decide) ?_
      refine lv_icmp_eq (tgt := 71) hx hb dX0_writeUpTo_58 (by decide) (fun c9 => ?_) (fun c9 => ?_)
      · have hw := hw.1 c9
        refine lv_iload_n hx hb dX0_writeUpTo_71 rfl (lv_at hl 0 rfl) ?_
        subst hQQ
        exact W.iret (v := z31_0) hx hb hr (fun t ht hW => ⟨⟨z31_0, (A_ring_L31, A_buffer_L31, A_firstPlace_L31, A_forcedPlace_L31 + z31_0, A_endPlace_L31, A_wordsToFailure_L31, A_opened_L31), rfl, hw, by rw [ht]; exact hP, va_K.moved hW.alike hK, hD⟩, hS.F ht⟩) hS.2.2 dX0_writeUpTo_72
      · have hw := hw.2 c9
        refine lv_aload_n hx hb dX0_writeUpTo_61 rfl (lv_at hl 1 rfl) ?_
        refine lv_dup hx hb dX0_writeUpTo_62 rfl ?_
        refine va_get (D := (dC, dI)) (ci := 0) (v := .int A_wordsToFailure_L31) (C := RX0) (T := TX0) (N := 7) hx hb hbg in_X0 hown hK hP 0 rfl rfl 5 (by decide) (hbg _ kw_52) (fun _ h9 => h9) rfl dX0_writeUpTo_63 ?_
        refine lv_iload_n hx hb dX0_writeUpTo_66 rfl (lv_at hl 0 rfl) ?_
        refine lv_isub hx hb dX0_writeUpTo_67 ?_
        refine va_put (D := (dC, dI)) (ci := 0) (v := .int (A_wordsToFailure_L31 - z31_0)) (ty := .int) (C := RX0) (T := TX0) (N := 7) hx hb hbg in_X0 tyX0 tyX0_ok nmX0 hown hK hP hD hS 0 rfl rfl 5 (by decide) (hbg _ kw_52) (fun _ h9 => h9) rfl (by decide +kernel) rfl rfl (Nat.le_of_ble_eq_true rfl) dX0_writeUpTo_68 (fun H_2 locs hP hD hS => ?_)
        have hP : va_P (dC, dI) vwCl [(qA, .inr (0, [.ref qA_ring, .ref qA_buffer, .int A_firstPlace_L31, .int (A_forcedPlace_L31 + z31_0), .int A_endPlace_L31, .int (A_wordsToFailure_L31 - z31_0), .int A_opened_L31])), (qA_ring, .inl (cA_ring, 65536, .inl A_ring_L31)), (qA_buffer, .inl (cA_buffer, 200, .inl A_buffer_L31))] H_2 := hP
        have hD : va_D A [(qA, .inr (0, [.ref qA_ring, .ref qA_buffer, .int A_firstPlace_L31, .int (A_forcedPlace_L31 + z31_0), .int A_endPlace_L31, .int (A_wordsToFailure_L31 - z31_0), .int A_opened_L31])), (qA_ring, .inl (cA_ring, 65536, .inl A_ring_L31)), (qA_buffer, .inl (cA_buffer, 200, .inl A_buffer_L31))] := hD
        refine lv_iload_n hx hb dX0_writeUpTo_71 rfl (lv_at hl 0 rfl) ?_
        subst hQQ
        exact W.iret (v := z31_0) hx hb hr (fun t ht hW => ⟨⟨z31_0, (A_ring_L31, A_buffer_L31, A_firstPlace_L31, A_forcedPlace_L31 + z31_0, A_endPlace_L31, A_wordsToFailure_L31 - z31_0, A_opened_L31), rfl, hw, by rw [ht]; exact hP, va_K.moved hW.alike hK, hD⟩, hS.F ht⟩) hS.2.2 dX0_writeUpTo_72
    · have hw := hw.2 c9
      refine lv_aload_n hx hb dX0_writeUpTo_47 rfl (lv_at hl 1 rfl) ?_
      have hFc := va_free (wc := [(qA, .inr (0, [.ref qA_ring, .ref qA_buffer, .int A_firstPlace_L31, .int (A_forcedPlace_L31 + z31_0), .int A_endPlace_L31, .int A_wordsToFailure_L31, .int A_opened_L31])), (qA_ring, .inl (cA_ring, 65536, .inl A_ring_L31)), (qA_buffer, .inl (cA_buffer, 200, .inl A_buffer_L31))]) hD hS hA [0, 1, 2] rfl
      refine va_callv (va_runV (As := []) (rest := []) ⟨hx, hb, hml, hown, hbg⟩ (met_X0_losePower l dC dI qA qA_ring qA_buffer cA_ring cA_buffer H_1.size A_ring_L31 A_buffer_L31 A_firstPlace_L31 (A_forcedPlace_L31 + z31_0) A_endPlace_L31 A_wordsToFailure_L31 A_opened_L31  _ hw) (cwV 0 hbg g_RX0_117 rfl rfl rfl (by decide +kernel) ⟨Nat.le_of_ble_eq_true rfl, Nat.le_of_ble_eq_true rfl⟩) ⟨pcW_A_b _ _ _ _ _ _ _ _ _ _ _ _ _ _ _ _, va_recv hK hP (ci := 0) (q0 := 0) rfl rfl, fun U hU hW => ⟨rfl, by rw [hU], by rw [hU]; exact hP, va_K.moved hW.alike hK, hD.weaken (fun _ _ _ _ => trivial)⟩⟩ rfl rfl hl.1 rfl (lv_room (Nat.le_of_ble_eq_true rfl)) dX0_writeUpTo_48 ⟨Nat.le_of_ble_eq_true rfl, Nat.le_of_ble_eq_true rfl⟩) hS (fun q _ h => hFc q h) hFc (fun u_3 t_3 H_3 locs ht hvm hw hB hz1 hk1 hS => ?_)
      obtain ⟨A_ring_3, A_buffer_3, A_firstPlace_3, A_forcedPlace_3, A_endPlace_3, A_wordsToFailure_3, A_opened_3⟩ := u_3
      obtain ⟨hP1, hK1, hD1⟩ := hB
      rw [ht] at hP1
      try dsimp only at hw
      have hP : va_P (dC, dI) vwCl [(qA, .inr (0, [.ref qA_ring, .ref qA_buffer, .int A_firstPlace_3, .int A_forcedPlace_3, .int A_endPlace_3, .int A_wordsToFailure_3, .int A_opened_3])), (qA_ring, .inl (cA_ring, 65536, .inl A_ring_3)), (qA_buffer, .inl (cA_buffer, 200, .inl A_buffer_3))] H_3 := hP1
      have hD : va_D A [(qA, .inr (0, [.ref qA_ring, .ref qA_buffer, .int A_firstPlace_3, .int A_forcedPlace_3, .int A_endPlace_3, .int A_wordsToFailure_3, .int A_opened_3])), (qA_ring, .inl (cA_ring, 65536, .inl A_ring_3)), (qA_buffer, .inl (cA_buffer, 200, .inl A_buffer_3))] := hD1.weaken (fun _ _ _ h => hFc _ h)
      refine lv_iconst (v := (-1 : Int32)) hx hb dX0_writeUpTo_51 (by decide) ?_
      subst hQQ
      exact W.iret (v := (-1 : Int32)) hx hb hr (fun t ht hW => ⟨⟨(-1 : Int32), (A_ring_3, A_buffer_3, A_firstPlace_3, A_forcedPlace_3, A_endPlace_3, A_wordsToFailure_3, A_opened_3), rfl, hw, by rw [ht]; exact hP, va_K.moved hW.alike hK, hD⟩, hS.F ht⟩) hS.2.2 dX0_writeUpTo_52
  refine lv_iload_n hx hb dX0_writeUpTo_0 rfl (lv_at hl 1 rfl) ?_
  refine lv_aload_n hx hb dX0_writeUpTo_1 rfl (lv_at hl 0 rfl) ?_
  refine va_get (D := (dC, dI)) (ci := 0) (v := .int A_forcedPlace) (C := RX0) (T := TX0) (N := 7) hx hb hbg in_X0 hown hK hP 0 rfl rfl 3 (by decide) (hbg _ kw_51) (fun _ h9 => h9) rfl dX0_writeUpTo_2 ?_
  refine lv_isub hx hb dX0_writeUpTo_5 ?_
  refine lv_iconst (v := (0 : Int32)) hx hb dX0_writeUpTo_6 (by decide) ?_
  refine va_mmax hx hb (hml.trans hl.1.symm) hown (hbg _ kw_57) (hbg _ kw_58) (hbg _ kw_10) (hbg _ kw_59) (Nat.le_of_ble_eq_true rfl) (Nat.le_of_ble_eq_true rfl) (Nat.le_of_ble_eq_true rfl) (Nat.le_of_ble_eq_true rfl) dX0_writeUpTo_7 ?_
  refine lv_topi (fun v2_4 ev2_4 => ?_)
  have hw := hw v2_4 ev2_4
  refine lv_istore_n (lv' := [(2, .int v2_4), (0, .ref qA), (1, .int x1)]) hx hb dX0_writeUpTo_10 rfl hl (by decide) rfl (fun ls hl => ?_)
  refine lv_aload_n hx hb dX0_writeUpTo_11 rfl (lv_at hl 1 rfl) ?_
  refine va_get (D := (dC, dI)) (ci := 0) (v := .int A_wordsToFailure) (C := RX0) (T := TX0) (N := 7) hx hb hbg in_X0 hown hK hP 0 rfl rfl 5 (by decide) (hbg _ kw_52) (fun _ h9 => h9) rfl dX0_writeUpTo_12 ?_
  refine lv_iconst (v := (-1 : Int32)) hx hb dX0_writeUpTo_15 (by decide) ?_
  refine lv_icmp_ne (tgt := 23) hx hb dX0_writeUpTo_16 (by decide) (fun c9 => ?_) (fun c9 => ?_)
  · have hw := hw.2 c9
    refine lv_iload_n hx hb dX0_writeUpTo_23 rfl (lv_at hl 0 rfl) ?_
    refine lv_aload_n hx hb dX0_writeUpTo_24 rfl (lv_at hl 1 rfl) ?_
    refine va_get (D := (dC, dI)) (ci := 0) (v := .int A_wordsToFailure) (C := RX0) (T := TX0) (N := 7) hx hb hbg in_X0 hown hK hP 0 rfl rfl 5 (by decide) (hbg _ kw_52) (fun _ h9 => h9) rfl dX0_writeUpTo_25 ?_
    refine va_mmin hx hb (hml.trans hl.1.symm) hown (hbg _ kw_60) (hbg _ kw_61) (hbg _ kw_10) (hbg _ kw_62) (Nat.le_of_ble_eq_true rfl) (Nat.le_of_ble_eq_true rfl) (Nat.le_of_ble_eq_true rfl) (Nat.le_of_ble_eq_true rfl) dX0_writeUpTo_28 ?_
    exact hC31 x1 v2_4 (if A_wordsToFailure < v2_4 then A_wordsToFailure else v2_4) A_ring A_buffer A_firstPlace A_forcedPlace A_endPlace A_wordsToFailure A_opened hw _ _ hP hD hS ls (lv_sub hl [1, 2, 0] rfl)
  · have hw := hw.1 c9
    refine lv_iload_n hx hb dX0_writeUpTo_19 rfl (lv_at hl 0 rfl) ?_
    refine lv_goto (tgt := 31) hx hb dX0_writeUpTo_20 (by decide) ?_
    exact hC31 x1 v2_4 v2_4 A_ring A_buffer A_firstPlace A_forcedPlace A_endPlace A_wordsToFailure A_opened hw _ _ hP hD hS ls (lv_sub hl [1, 2, 0] rfl)
def wp_X0_cut (post : Int32 → St_A → Prop) (A_ring : Nat → Int32) (A_buffer : Nat → Int32) (A_firstPlace : Int32) (A_forcedPlace : Int32) (A_endPlace : Int32) (A_wordsToFailure : Int32) (A_opened : Int32) : Prop :=
  ((A_opened = (0 : Int32) → post (0 : Int32) (A_ring, A_buffer, A_firstPlace, A_forcedPlace, A_endPlace, A_wordsToFailure, A_opened)) ∧ (¬ A_opened = (0 : Int32) → wp_X0_losePower (fun u_1 => match u_1 with | (A_ring_1, A_buffer_1, A_firstPlace_1, A_forcedPlace_1, A_endPlace_1, A_wordsToFailure_1, A_opened_1) => post (1 : Int32) (A_ring_1, A_buffer_1, A_firstPlace_1, A_forcedPlace_1, A_endPlace_1, A_wordsToFailure_1, A_opened_1)) A_ring A_buffer A_firstPlace A_forcedPlace A_endPlace A_wordsToFailure A_opened))
set_option maxHeartbeats 4000000 in
set_option maxRecDepth 100000 in
theorem met_X0_cut (l : Launch) (dC : Nat → ClassId) (dI : Nat → Nat → Nat) (qA qA_ring qA_buffer : Nat) (cA_ring cA_buffer : ClassId) (sz : Nat) (A_ring : Nat → Int32) (A_buffer : Nat → Int32) (A_firstPlace : Int32) (A_forcedPlace : Int32) (A_endPlace : Int32) (A_wordsToFailure : Int32) (A_opened : Int32) (post : Int32 → St_A → Prop) (hw : wp_X0_cut post A_ring A_buffer A_firstPlace A_forcedPlace A_endPlace A_wordsToFailure A_opened) :
    Met l yX0_cut wsX0_cut ({ frames := 2, cells := 0, slots := 0, locals := 43 } : Room) (pcW_A dC dI qA qA_ring qA_buffer cA_ring cA_buffer sz A_ring A_buffer A_firstPlace A_forcedPlace A_endPlace A_wordsToFailure A_opened [.ref qA]) (va_Qi post (at_A dC dI (va_A [(qA, .inr (0, [.ref qA_ring, .ref qA_buffer, .int A_firstPlace, .int A_forcedPlace, .int A_endPlace, .int A_wordsToFailure, .int A_opened])), (qA_ring, .inl (cA_ring, 65536, .inl A_ring)), (qA_buffer, .inl (cA_buffer, 200, .inl A_buffer))] sz) qA qA_ring qA_buffer cA_ring cA_buffer) (va_A [(qA, .inr (0, [.ref qA_ring, .ref qA_buffer, .int A_firstPlace, .int A_forcedPlace, .int A_endPlace, .int A_wordsToFailure, .int A_opened])), (qA_ring, .inl (cA_ring, 65536, .inl A_ring)), (qA_buffer, .inl (cA_buffer, 200, .inl A_buffer))] sz)) 0 0 (va_A [(qA, .inr (0, [.ref qA_ring, .ref qA_buffer, .int A_firstPlace, .int A_forcedPlace, .int A_endPlace, .int A_wordsToFailure, .int A_opened])), (qA_ring, .inl (cA_ring, 65536, .inl A_ring)), (qA_buffer, .inl (cA_buffer, 200, .inl A_buffer))] sz) := by
  refine Met.ofW (cc := cX0_cut) (maxL := 1) (ret := (some .boolean)) (by decide) rfl ?_
  intro p e s m args below meth c s₁ B hml hv
  obtain ⟨hav, hsz, hP, hK, hD0⟩ := hv
  have hx := B.exec
  have hb := B.bytes
  have hr := B.returns
  have hts := atoms_spec (ws := wsX0_cut) B.pre
  have hbg : ∀ w ∈ bigW, w.before args s = true := fun w h => hts w (List.mem_cons_of_mem _ h)
  have hown : s.vm.findClass RX0 = some m.cls := findClass_of_methodNamed B.named
  have hlocks := B.notSynchronized
  subst hsz
  have hD := hD0.self (sz := s.heap.size)
  generalize hAe : va_A [(qA, .inr (0, [.ref qA_ring, .ref qA_buffer, .int A_firstPlace, .int A_forcedPlace, .int A_endPlace, .int A_wordsToFailure, .int A_opened])), (qA_ring, .inl (cA_ring, 65536, .inl A_ring)), (qA_buffer, .inl (cA_buffer, 200, .inl A_buffer))] s.heap.size = A at hD ⊢
  have hA : ∀ q : Nat, s.heap.size ≤ q → A q := fun q h => by rw [← hAe]; exact Or.inr h
  have hS : va_S A s.heap s.heap [] := va_S.rf
  have hP : va_P (dC, dI) vwCl [(qA, .inr (0, [.ref qA_ring, .ref qA_buffer, .int A_firstPlace, .int A_forcedPlace, .int A_endPlace, .int A_wordsToFailure, .int A_opened])), (qA_ring, .inl (cA_ring, 65536, .inl A_ring)), (qA_buffer, .inl (cA_buffer, 200, .inl A_buffer))] s.heap := hP
  generalize hQQ : MQ below (va_Qi post (at_A dC dI A qA qA_ring qA_buffer cA_ring cA_buffer) A) args s 0 0 A = QQ
  have hl := lv_entry ([.ref qA]) (n := 1) (Nat.le_of_ble_eq_true rfl)
  rw [show entryFrame m args 1 = entryFrame m ([.ref qA] : List Value).toArray 1 by rw [hav], lg_entry_eq]
  generalize (lg_sl ([.ref qA]) ++ List.replicate (1 - (lg_sl ([.ref qA])).length) Slot.unset).toArray = ls at hl ⊢
  have hl : lv_has ls 1 [(0, .ref qA)] := hl
  unfold wp_X0_cut at hw
  refine lv_aload_n hx hb dX0_cut_0 rfl (lv_at hl 0 rfl) ?_
  refine va_get (D := (dC, dI)) (ci := 0) (v := .int A_opened) (C := RX0) (T := TX0) (N := 7) hx hb hbg in_X0 hown hK hP 0 rfl rfl 6 (by decide) (hbg _ kw_45) (fun _ h9 => h9) rfl dX0_cut_1 ?_
  refine lv_if_ne (tgt := 9) hx hb dX0_cut_4 (by decide) (fun c9 => ?_) (fun c9 => ?_)
  · have hw := hw.2 c9
    refine lv_aload_n hx hb dX0_cut_9 rfl (lv_at hl 0 rfl) ?_
    have hFc := va_free (wc := [(qA, .inr (0, [.ref qA_ring, .ref qA_buffer, .int A_firstPlace, .int A_forcedPlace, .int A_endPlace, .int A_wordsToFailure, .int A_opened])), (qA_ring, .inl (cA_ring, 65536, .inl A_ring)), (qA_buffer, .inl (cA_buffer, 200, .inl A_buffer))]) hD hS hA [0, 1, 2] rfl
    refine va_callv (va_runV (As := []) (rest := []) ⟨hx, hb, hml, hown, hbg⟩ (met_X0_losePower l dC dI qA qA_ring qA_buffer cA_ring cA_buffer s.heap.size A_ring A_buffer A_firstPlace A_forcedPlace A_endPlace A_wordsToFailure A_opened  _ hw) (cwV 0 hbg g_RX0_117 rfl rfl rfl (by decide +kernel) ⟨Nat.le_of_ble_eq_true rfl, Nat.le_of_ble_eq_true rfl⟩) ⟨pcW_A_b _ _ _ _ _ _ _ _ _ _ _ _ _ _ _ _, va_recv hK hP (ci := 0) (q0 := 0) rfl rfl, fun U hU hW => ⟨rfl, by rw [hU], by rw [hU]; exact hP, va_K.moved hW.alike hK, hD.weaken (fun _ _ _ _ => trivial)⟩⟩ rfl rfl hl.1 rfl (lv_room (Nat.le_of_ble_eq_true rfl)) dX0_cut_10 ⟨Nat.le_of_ble_eq_true rfl, Nat.le_of_ble_eq_true rfl⟩) hS (fun q _ h => hFc q h) hFc (fun u_1 t_1 H_1 locs ht hvm hw hB hz1 hk1 hS => ?_)
    obtain ⟨A_ring_1, A_buffer_1, A_firstPlace_1, A_forcedPlace_1, A_endPlace_1, A_wordsToFailure_1, A_opened_1⟩ := u_1
    obtain ⟨hP1, hK1, hD1⟩ := hB
    rw [ht] at hP1
    try dsimp only at hw
    have hP : va_P (dC, dI) vwCl [(qA, .inr (0, [.ref qA_ring, .ref qA_buffer, .int A_firstPlace_1, .int A_forcedPlace_1, .int A_endPlace_1, .int A_wordsToFailure_1, .int A_opened_1])), (qA_ring, .inl (cA_ring, 65536, .inl A_ring_1)), (qA_buffer, .inl (cA_buffer, 200, .inl A_buffer_1))] H_1 := hP1
    have hD : va_D A [(qA, .inr (0, [.ref qA_ring, .ref qA_buffer, .int A_firstPlace_1, .int A_forcedPlace_1, .int A_endPlace_1, .int A_wordsToFailure_1, .int A_opened_1])), (qA_ring, .inl (cA_ring, 65536, .inl A_ring_1)), (qA_buffer, .inl (cA_buffer, 200, .inl A_buffer_1))] := hD1.weaken (fun _ _ _ h => hFc _ h)
    refine lv_iconst (v := (1 : Int32)) hx hb dX0_cut_13 (by decide) ?_
    subst hQQ
    exact W.zret (v := (1 : Int32)) hx hb hr rfl (fun t ht hW => ⟨⟨(1 : Int32), (A_ring_1, A_buffer_1, A_firstPlace_1, A_forcedPlace_1, A_endPlace_1, A_wordsToFailure_1, A_opened_1), rfl, hw, by rw [ht]; exact hP, va_K.moved hW.alike hK, hD⟩, hS.F ht⟩) hS.2.2 dX0_cut_14
  · have hw := hw.1 c9
    refine lv_iconst (v := (0 : Int32)) hx hb dX0_cut_7 (by decide) ?_
    subst hQQ
    exact W.zret (v := (0 : Int32)) hx hb hr rfl (fun t ht hW => ⟨⟨(0 : Int32), (A_ring, A_buffer, A_firstPlace, A_forcedPlace, A_endPlace, A_wordsToFailure, A_opened), rfl, hw, by rw [ht]; exact hP, va_K.moved hW.alike hK, hD⟩, hS.F ht⟩) hS.2.2 dX0_cut_8
def wc_X0_addVoidRest_100 (post : St_A → Prop) (k100_1 : Int32) (k100_2 : Int32) (k100_3 : Int32) (k100_4 : Int32) (A_ring_L100 : Nat → Int32) (A_buffer_L100 : Nat → Int32) (A_firstPlace_L100 : Int32) (A_forcedPlace_L100 : Int32) (A_endPlace_L100 : Int32) (A_wordsToFailure_L100 : Int32) (A_opened_L100 : Int32) : Prop :=
    wp_X0_addWord (fun u_6 => match u_6 with | (A_ring_6, A_buffer_6, A_firstPlace_6, A_forcedPlace_6, A_endPlace_6, A_wordsToFailure_6, A_opened_6) => post (A_ring_6, A_buffer_6, A_firstPlace_6, A_forcedPlace_6, A_endPlace_6, A_wordsToFailure_6, A_opened_6)) (-k100_2) A_ring_L100 A_buffer_L100 A_firstPlace_L100 A_forcedPlace_L100 A_endPlace_L100 A_wordsToFailure_L100 A_opened_L100
def wl_X0_addVoidRest_75 (post : St_A → Prop) (k75_1 : Int32) (k75_2 : Int32) (k75_3 : Int32) : Nat → Int32 → (Nat → Int32) → (Nat → Int32) → Int32 → Int32 → Int32 → Int32 → Int32 → Prop
  | 0, _, _, _, _, _, _, _, _ => False
  | n75 + 1, y75_4, A_ring_L75, A_buffer_L75, A_firstPlace_L75, A_forcedPlace_L75, A_endPlace_L75, A_wordsToFailure_L75, A_opened_L75 =>
    ((k75_3 ≤ y75_4 → wc_X0_addVoidRest_100 post k75_1 k75_2 k75_3 y75_4 A_ring_L75 A_buffer_L75 A_firstPlace_L75 A_forcedPlace_L75 A_endPlace_L75 A_wordsToFailure_L75 A_opened_L75) ∧ (¬ k75_3 ≤ y75_4 → (((205 : Int32) ≤ y75_4 → wc_X0_addVoidRest_100 post k75_1 k75_2 k75_3 y75_4 A_ring_L75 A_buffer_L75 A_firstPlace_L75 A_forcedPlace_L75 A_endPlace_L75 A_wordsToFailure_L75 A_opened_L75) ∧ (¬ (205 : Int32) ≤ y75_4 → wp_X0_addWord (fun u_3 => match u_3 with | (A_ring_3, A_buffer_3, A_firstPlace_3, A_forcedPlace_3, A_endPlace_3, A_wordsToFailure_3, A_opened_3) => wl_X0_addVoidRest_75 post k75_1 k75_2 k75_3 n75 (y75_4 + (1 : Int32)) A_ring_3 A_buffer_3 A_firstPlace_3 A_forcedPlace_3 A_endPlace_3 A_wordsToFailure_3 A_opened_3) (0 : Int32) A_ring_L75 A_buffer_L75 A_firstPlace_L75 A_forcedPlace_L75 A_endPlace_L75 A_wordsToFailure_L75 A_opened_L75))))
def wc_X0_addVoidRest_46 (post : St_A → Prop) (k46_1 : Int32) (k46_2 : Int32) (A_ring_L46 : Nat → Int32) (A_buffer_L46 : Nat → Int32) (A_firstPlace_L46 : Int32) (A_forcedPlace_L46 : Int32) (A_endPlace_L46 : Int32) (A_wordsToFailure_L46 : Int32) (A_opened_L46 : Int32) : Prop :=
    ((k46_1 < A_endPlace_L46 → wp_X0_wordAt (fun r_4 => wp_X0_behind (fun r_5 => ∃ n, wl_X0_addVoidRest_75 post k46_1 r_4 (r_5 - A_endPlace_L46) n (1 : Int32) A_ring_L46 A_buffer_L46 A_firstPlace_L46 A_forcedPlace_L46 A_endPlace_L46 A_wordsToFailure_L46 A_opened_L46) k46_1 A_ring_L46 A_buffer_L46 A_firstPlace_L46 A_forcedPlace_L46 A_endPlace_L46 A_wordsToFailure_L46 A_opened_L46) k46_1 A_ring_L46 A_buffer_L46 A_firstPlace_L46 A_forcedPlace_L46 A_endPlace_L46 A_wordsToFailure_L46 A_opened_L46) ∧ (¬ k46_1 < A_endPlace_L46 → post (A_ring_L46, A_buffer_L46, A_firstPlace_L46, A_forcedPlace_L46, A_endPlace_L46, A_wordsToFailure_L46, A_opened_L46)))
def wl_X0_addVoidRest_7 (post : St_A → Prop) : Nat → Int32 → Int32 → (Nat → Int32) → (Nat → Int32) → Int32 → Int32 → Int32 → Int32 → Int32 → Prop
  | 0, _, _, _, _, _, _, _, _, _ => False
  | n7 + 1, y7_1, y7_2, A_ring_L7, A_buffer_L7, A_firstPlace_L7, A_forcedPlace_L7, A_endPlace_L7, A_wordsToFailure_L7, A_opened_L7 =>
    (((13107 : Int32) ≤ y7_2 → wc_X0_addVoidRest_46 post y7_1 y7_2 A_ring_L7 A_buffer_L7 A_firstPlace_L7 A_forcedPlace_L7 A_endPlace_L7 A_wordsToFailure_L7 A_opened_L7) ∧ (¬ (13107 : Int32) ≤ y7_2 → ((A_endPlace_L7 ≤ y7_1 → wc_X0_addVoidRest_46 post y7_1 y7_2 A_ring_L7 A_buffer_L7 A_firstPlace_L7 A_forcedPlace_L7 A_endPlace_L7 A_wordsToFailure_L7 A_opened_L7) ∧ (¬ A_endPlace_L7 ≤ y7_1 → wp_X0_behind (fun r_1 => ((A_endPlace_L7 < r_1 → wc_X0_addVoidRest_46 post y7_1 y7_2 A_ring_L7 A_buffer_L7 A_firstPlace_L7 A_forcedPlace_L7 A_endPlace_L7 A_wordsToFailure_L7 A_opened_L7) ∧ (¬ A_endPlace_L7 < r_1 → wp_X0_behind (fun r_2 => wl_X0_addVoidRest_7 post n7 r_2 (y7_2 + (1 : Int32)) A_ring_L7 A_buffer_L7 A_firstPlace_L7 A_forcedPlace_L7 A_endPlace_L7 A_wordsToFailure_L7 A_opened_L7) y7_1 A_ring_L7 A_buffer_L7 A_firstPlace_L7 A_forcedPlace_L7 A_endPlace_L7 A_wordsToFailure_L7 A_opened_L7))) y7_1 A_ring_L7 A_buffer_L7 A_firstPlace_L7 A_forcedPlace_L7 A_endPlace_L7 A_wordsToFailure_L7 A_opened_L7))))
def wp_X0_addVoidRest (post : St_A → Prop) (A_ring : Nat → Int32) (A_buffer : Nat → Int32) (A_firstPlace : Int32) (A_forcedPlace : Int32) (A_endPlace : Int32) (A_wordsToFailure : Int32) (A_opened : Int32) : Prop :=
  ∃ n, wl_X0_addVoidRest_7 post n A_firstPlace (0 : Int32) A_ring A_buffer A_firstPlace A_forcedPlace A_endPlace A_wordsToFailure A_opened
set_option maxHeartbeats 4000000 in
set_option maxRecDepth 100000 in
theorem met_X0_addVoidRest (l : Launch) (dC : Nat → ClassId) (dI : Nat → Nat → Nat) (qA qA_ring qA_buffer : Nat) (cA_ring cA_buffer : ClassId) (sz : Nat) (A_ring : Nat → Int32) (A_buffer : Nat → Int32) (A_firstPlace : Int32) (A_forcedPlace : Int32) (A_endPlace : Int32) (A_wordsToFailure : Int32) (A_opened : Int32) (post : St_A → Prop) (hw : wp_X0_addVoidRest post A_ring A_buffer A_firstPlace A_forcedPlace A_endPlace A_wordsToFailure A_opened) :
    Met l yX0_addVoidRest wsX0_addVoidRest ({ frames := 2, cells := 0, slots := 0, locals := 42 } : Room) (pcW_A dC dI qA qA_ring qA_buffer cA_ring cA_buffer sz A_ring A_buffer A_firstPlace A_forcedPlace A_endPlace A_wordsToFailure A_opened [.ref qA]) (va_Qv post (at_A dC dI (va_A [(qA, .inr (0, [.ref qA_ring, .ref qA_buffer, .int A_firstPlace, .int A_forcedPlace, .int A_endPlace, .int A_wordsToFailure, .int A_opened])), (qA_ring, .inl (cA_ring, 65536, .inl A_ring)), (qA_buffer, .inl (cA_buffer, 200, .inl A_buffer))] sz) qA qA_ring qA_buffer cA_ring cA_buffer) (va_A [(qA, .inr (0, [.ref qA_ring, .ref qA_buffer, .int A_firstPlace, .int A_forcedPlace, .int A_endPlace, .int A_wordsToFailure, .int A_opened])), (qA_ring, .inl (cA_ring, 65536, .inl A_ring)), (qA_buffer, .inl (cA_buffer, 200, .inl A_buffer))] sz)) 0 0 (va_A [(qA, .inr (0, [.ref qA_ring, .ref qA_buffer, .int A_firstPlace, .int A_forcedPlace, .int A_endPlace, .int A_wordsToFailure, .int A_opened])), (qA_ring, .inl (cA_ring, 65536, .inl A_ring)), (qA_buffer, .inl (cA_buffer, 200, .inl A_buffer))] sz) := by
  refine Met.ofW (cc := cX0_addVoidRest) (maxL := 5) (ret := none) (by decide) rfl ?_
  intro p e s m args below meth c s₁ B hml hv
  obtain ⟨hav, hsz, hP, hK, hD0⟩ := hv
  have hx := B.exec
  have hb := B.bytes
  have hr := B.returns
  have hts := atoms_spec (ws := wsX0_addVoidRest) B.pre
  have hbg : ∀ w ∈ bigW, w.before args s = true := fun w h => hts w (List.mem_cons_of_mem _ h)
  have hown : s.vm.findClass RX0 = some m.cls := findClass_of_methodNamed B.named
  have hlocks := B.notSynchronized
  subst hsz
  have hD := hD0.self (sz := s.heap.size)
  generalize hAe : va_A [(qA, .inr (0, [.ref qA_ring, .ref qA_buffer, .int A_firstPlace, .int A_forcedPlace, .int A_endPlace, .int A_wordsToFailure, .int A_opened])), (qA_ring, .inl (cA_ring, 65536, .inl A_ring)), (qA_buffer, .inl (cA_buffer, 200, .inl A_buffer))] s.heap.size = A at hD ⊢
  have hA : ∀ q : Nat, s.heap.size ≤ q → A q := fun q h => by rw [← hAe]; exact Or.inr h
  have hS : va_S A s.heap s.heap [] := va_S.rf
  have hP : va_P (dC, dI) vwCl [(qA, .inr (0, [.ref qA_ring, .ref qA_buffer, .int A_firstPlace, .int A_forcedPlace, .int A_endPlace, .int A_wordsToFailure, .int A_opened])), (qA_ring, .inl (cA_ring, 65536, .inl A_ring)), (qA_buffer, .inl (cA_buffer, 200, .inl A_buffer))] s.heap := hP
  generalize hQQ : MQ below (va_Qv post (at_A dC dI A qA qA_ring qA_buffer cA_ring cA_buffer) A) args s 0 0 A = QQ
  have hl := lv_entry ([.ref qA]) (n := 5) (Nat.le_of_ble_eq_true rfl)
  rw [show entryFrame m args 5 = entryFrame m ([.ref qA] : List Value).toArray 5 by rw [hav], lg_entry_eq]
  generalize (lg_sl ([.ref qA]) ++ List.replicate (5 - (lg_sl ([.ref qA])).length) Slot.unset).toArray = ls at hl ⊢
  have hl : lv_has ls 5 [(0, .ref qA)] := hl
  unfold wp_X0_addVoidRest at hw
  have hC100 : ∀ (k100_1 : Int32) (k100_2 : Int32) (k100_3 : Int32) (k100_4 : Int32) (A_ring_L100 : Nat → Int32) (A_buffer_L100 : Nat → Int32) (A_firstPlace_L100 : Int32) (A_forcedPlace_L100 : Int32) (A_endPlace_L100 : Int32) (A_wordsToFailure_L100 : Int32) (A_opened_L100 : Int32), wc_X0_addVoidRest_100 post k100_1 k100_2 k100_3 k100_4 A_ring_L100 A_buffer_L100 A_firstPlace_L100 A_forcedPlace_L100 A_endPlace_L100 A_wordsToFailure_L100 A_opened_L100 → ∀ (H : Heap) (locs : List Loc), va_P (dC, dI) vwCl [(qA, .inr (0, [.ref qA_ring, .ref qA_buffer, .int A_firstPlace_L100, .int A_forcedPlace_L100, .int A_endPlace_L100, .int A_wordsToFailure_L100, .int A_opened_L100])), (qA_ring, .inl (cA_ring, 65536, .inl A_ring_L100)), (qA_buffer, .inl (cA_buffer, 200, .inl A_buffer_L100))] H → va_D A [(qA, .inr (0, [.ref qA_ring, .ref qA_buffer, .int A_firstPlace_L100, .int A_forcedPlace_L100, .int A_endPlace_L100, .int A_wordsToFailure_L100, .int A_opened_L100])), (qA_ring, .inl (cA_ring, 65536, .inl A_ring_L100)), (qA_buffer, .inl (cA_buffer, 200, .inl A_buffer_L100))] → va_S A s.heap H locs → ∀ ls : Array Slot, lv_has ls 5 [(0, .ref qA), (1, .int k100_1), (2, .int k100_2), (3, .int k100_3), (4, .int k100_4)] → W p l e (headSpec wsX0_addVoidRest ({ frames := 2, cells := 0, slots := 0, locals := 42 } : Room)).room s m args below meth c H locs 0 0 QQ (F0 m 100 ls []) := by
    intro k100_1 k100_2 k100_3 k100_4 A_ring_L100 A_buffer_L100 A_firstPlace_L100 A_forcedPlace_L100 A_endPlace_L100 A_wordsToFailure_L100 A_opened_L100 hw H locs hP hD hS ls hl
    unfold wc_X0_addVoidRest_100 at hw
    refine lv_aload_n hx hb dX0_addVoidRest_100 rfl (lv_at hl 0 rfl) ?_
    refine lv_iload_n hx hb dX0_addVoidRest_101 rfl (lv_at hl 2 rfl) ?_
    refine lv_ineg hx hb dX0_addVoidRest_102 ?_
    have hFc := va_free (wc := [(qA, .inr (0, [.ref qA_ring, .ref qA_buffer, .int A_firstPlace_L100, .int A_forcedPlace_L100, .int A_endPlace_L100, .int A_wordsToFailure_L100, .int A_opened_L100])), (qA_ring, .inl (cA_ring, 65536, .inl A_ring_L100)), (qA_buffer, .inl (cA_buffer, 200, .inl A_buffer_L100))]) hD hS hA [0, 1, 2] rfl
    refine va_callv (va_runV (As := [.int (-k100_2)]) (rest := []) ⟨hx, hb, hml, hown, hbg⟩ (met_X0_addWord l dC dI qA qA_ring qA_buffer cA_ring cA_buffer H.size A_ring_L100 A_buffer_L100 A_firstPlace_L100 A_forcedPlace_L100 A_endPlace_L100 A_wordsToFailure_L100 A_opened_L100 (-k100_2) _ hw) (cwV 1 hbg g_RX0_65 rfl rfl rfl (by decide +kernel) ⟨Nat.le_of_ble_eq_true rfl, Nat.le_of_ble_eq_true rfl⟩) ⟨pcW_A_b _ _ _ _ _ _ _ _ _ _ _ _ _ _ _ _, va_recv hK hP (ci := 0) (q0 := 0) rfl rfl, fun U hU hW => ⟨rfl, by rw [hU], by rw [hU]; exact hP, va_K.moved hW.alike hK, hD.weaken (fun _ _ _ _ => trivial)⟩⟩ rfl rfl hl.1 rfl (lv_room (Nat.le_of_ble_eq_true rfl)) dX0_addVoidRest_103 ⟨Nat.le_of_ble_eq_true rfl, Nat.le_of_ble_eq_true rfl⟩) hS (fun q _ h => hFc q h) hFc (fun u_6 t_6 H_6 locs ht hvm hw hB hz1 hk1 hS => ?_)
    obtain ⟨A_ring_6, A_buffer_6, A_firstPlace_6, A_forcedPlace_6, A_endPlace_6, A_wordsToFailure_6, A_opened_6⟩ := u_6
    obtain ⟨hP1, hK1, hD1⟩ := hB
    rw [ht] at hP1
    try dsimp only at hw
    have hP : va_P (dC, dI) vwCl [(qA, .inr (0, [.ref qA_ring, .ref qA_buffer, .int A_firstPlace_6, .int A_forcedPlace_6, .int A_endPlace_6, .int A_wordsToFailure_6, .int A_opened_6])), (qA_ring, .inl (cA_ring, 65536, .inl A_ring_6)), (qA_buffer, .inl (cA_buffer, 200, .inl A_buffer_6))] H_6 := hP1
    have hD : va_D A [(qA, .inr (0, [.ref qA_ring, .ref qA_buffer, .int A_firstPlace_6, .int A_forcedPlace_6, .int A_endPlace_6, .int A_wordsToFailure_6, .int A_opened_6])), (qA_ring, .inl (cA_ring, 65536, .inl A_ring_6)), (qA_buffer, .inl (cA_buffer, 200, .inl A_buffer_6))] := hD1.weaken (fun _ _ _ h => hFc _ h)
    subst hQQ
    exact W.vret hx hb hr (fun t ht hW => ⟨⟨(A_ring_6, A_buffer_6, A_firstPlace_6, A_forcedPlace_6, A_endPlace_6, A_wordsToFailure_6, A_opened_6), rfl, hw, by rw [ht]; exact hP, va_K.moved hW.alike hK, hD⟩, hS.F ht⟩) hS.2.2 dX0_addVoidRest_106
  have hL75 : ∀ (n75 : Nat) (k75_1 : Int32) (k75_2 : Int32) (k75_3 : Int32) (y75_4 : Int32) (A_ring_L75 : Nat → Int32) (A_buffer_L75 : Nat → Int32) (A_firstPlace_L75 : Int32) (A_forcedPlace_L75 : Int32) (A_endPlace_L75 : Int32) (A_wordsToFailure_L75 : Int32) (A_opened_L75 : Int32), wl_X0_addVoidRest_75 post k75_1 k75_2 k75_3 n75 y75_4 A_ring_L75 A_buffer_L75 A_firstPlace_L75 A_forcedPlace_L75 A_endPlace_L75 A_wordsToFailure_L75 A_opened_L75 → ∀ (H : Heap) (locs : List Loc), va_P (dC, dI) vwCl [(qA, .inr (0, [.ref qA_ring, .ref qA_buffer, .int A_firstPlace_L75, .int A_forcedPlace_L75, .int A_endPlace_L75, .int A_wordsToFailure_L75, .int A_opened_L75])), (qA_ring, .inl (cA_ring, 65536, .inl A_ring_L75)), (qA_buffer, .inl (cA_buffer, 200, .inl A_buffer_L75))] H → va_D A [(qA, .inr (0, [.ref qA_ring, .ref qA_buffer, .int A_firstPlace_L75, .int A_forcedPlace_L75, .int A_endPlace_L75, .int A_wordsToFailure_L75, .int A_opened_L75])), (qA_ring, .inl (cA_ring, 65536, .inl A_ring_L75)), (qA_buffer, .inl (cA_buffer, 200, .inl A_buffer_L75))] → va_S A s.heap H locs → ∀ ls : Array Slot, lv_has ls 5 [(0, .ref qA), (1, .int k75_1), (2, .int k75_2), (3, .int k75_3), (4, .int y75_4)] → W p l e (headSpec wsX0_addVoidRest ({ frames := 2, cells := 0, slots := 0, locals := 42 } : Room)).room s m args below meth c H locs 0 0 QQ (F0 m 75 ls []) := by
    intro n75
    induction n75 with
    | zero => intro k75_1 k75_2 k75_3 y75_4 A_ring_L75 A_buffer_L75 A_firstPlace_L75 A_forcedPlace_L75 A_endPlace_L75 A_wordsToFailure_L75 A_opened_L75 hw; exact False.elim hw
    | succ n75 ih75 =>
      intro k75_1 k75_2 k75_3 y75_4 A_ring_L75 A_buffer_L75 A_firstPlace_L75 A_forcedPlace_L75 A_endPlace_L75 A_wordsToFailure_L75 A_opened_L75 hw H locs hP hD hS ls hl
      rw [wl_X0_addVoidRest_75] at hw
      refine lv_iload hx hb dX0_addVoidRest_75 (lv_at hl 4 rfl) ?_
      refine lv_iload_n hx hb dX0_addVoidRest_77 rfl (lv_at hl 3 rfl) ?_
      refine lv_icmp_ge (tgt := 100) hx hb dX0_addVoidRest_78 (by decide) (fun c9 => ?_) (fun c9 => ?_)
      · have hw := hw.1 c9
        exact hC100 k75_1 k75_2 k75_3 y75_4 A_ring_L75 A_buffer_L75 A_firstPlace_L75 A_forcedPlace_L75 A_endPlace_L75 A_wordsToFailure_L75 A_opened_L75 hw _ _ hP hD hS ls (lv_sub hl [0, 1, 2, 3, 4] rfl)
      · have hw := hw.2 c9
        refine lv_iload hx hb dX0_addVoidRest_81 (lv_at hl 4 rfl) ?_
        refine lv_sipush (v := (205 : Int32)) hx hb dX0_addVoidRest_83 (by decide) ?_
        refine lv_icmp_ge (tgt := 100) hx hb dX0_addVoidRest_86 (by decide) (fun c9 => ?_) (fun c9 => ?_)
        · have hw := hw.1 c9
          exact hC100 k75_1 k75_2 k75_3 y75_4 A_ring_L75 A_buffer_L75 A_firstPlace_L75 A_forcedPlace_L75 A_endPlace_L75 A_wordsToFailure_L75 A_opened_L75 hw _ _ hP hD hS ls (lv_sub hl [0, 1, 2, 3, 4] rfl)
        · have hw := hw.2 c9
          refine lv_aload_n hx hb dX0_addVoidRest_89 rfl (lv_at hl 0 rfl) ?_
          refine lv_iconst (v := (0 : Int32)) hx hb dX0_addVoidRest_90 (by decide) ?_
          have hFc := va_free (wc := [(qA, .inr (0, [.ref qA_ring, .ref qA_buffer, .int A_firstPlace_L75, .int A_forcedPlace_L75, .int A_endPlace_L75, .int A_wordsToFailure_L75, .int A_opened_L75])), (qA_ring, .inl (cA_ring, 65536, .inl A_ring_L75)), (qA_buffer, .inl (cA_buffer, 200, .inl A_buffer_L75))]) hD hS hA [0, 1, 2] rfl
          refine va_callv (va_runV (As := [.int (0 : Int32)]) (rest := []) ⟨hx, hb, hml, hown, hbg⟩ (met_X0_addWord l dC dI qA qA_ring qA_buffer cA_ring cA_buffer H.size A_ring_L75 A_buffer_L75 A_firstPlace_L75 A_forcedPlace_L75 A_endPlace_L75 A_wordsToFailure_L75 A_opened_L75 (0 : Int32) _ hw) (cwV 1 hbg g_RX0_65 rfl rfl rfl (by decide +kernel) ⟨Nat.le_of_ble_eq_true rfl, Nat.le_of_ble_eq_true rfl⟩) ⟨pcW_A_b _ _ _ _ _ _ _ _ _ _ _ _ _ _ _ _, va_recv hK hP (ci := 0) (q0 := 0) rfl rfl, fun U hU hW => ⟨rfl, by rw [hU], by rw [hU]; exact hP, va_K.moved hW.alike hK, hD.weaken (fun _ _ _ _ => trivial)⟩⟩ rfl rfl hl.1 rfl (lv_room (Nat.le_of_ble_eq_true rfl)) dX0_addVoidRest_91 ⟨Nat.le_of_ble_eq_true rfl, Nat.le_of_ble_eq_true rfl⟩) hS (fun q _ h => hFc q h) hFc (fun u_3 t_3 H_3 locs ht hvm hw hB hz1 hk1 hS => ?_)
          obtain ⟨A_ring_3, A_buffer_3, A_firstPlace_3, A_forcedPlace_3, A_endPlace_3, A_wordsToFailure_3, A_opened_3⟩ := u_3
          obtain ⟨hP1, hK1, hD1⟩ := hB
          rw [ht] at hP1
          try dsimp only at hw
          have hP : va_P (dC, dI) vwCl [(qA, .inr (0, [.ref qA_ring, .ref qA_buffer, .int A_firstPlace_3, .int A_forcedPlace_3, .int A_endPlace_3, .int A_wordsToFailure_3, .int A_opened_3])), (qA_ring, .inl (cA_ring, 65536, .inl A_ring_3)), (qA_buffer, .inl (cA_buffer, 200, .inl A_buffer_3))] H_3 := hP1
          have hD : va_D A [(qA, .inr (0, [.ref qA_ring, .ref qA_buffer, .int A_firstPlace_3, .int A_forcedPlace_3, .int A_endPlace_3, .int A_wordsToFailure_3, .int A_opened_3])), (qA_ring, .inl (cA_ring, 65536, .inl A_ring_3)), (qA_buffer, .inl (cA_buffer, 200, .inl A_buffer_3))] := hD1.weaken (fun _ _ _ h => hFc _ h)
          refine lv_iinc (v := y75_4 + (1 : Int32)) (lv' := [(4, .int (y75_4 + (1 : Int32))), (0, .ref qA), (1, .int k75_1), (2, .int k75_2), (3, .int k75_3)]) hx hb dX0_addVoidRest_94 hl (k := 4) rfl rfl (by decide) rfl (fun ls hl => ?_)
          refine lv_goto (tgt := 75) hx hb dX0_addVoidRest_97 (by decide) ?_
          exact ih75 k75_1 k75_2 k75_3 (y75_4 + (1 : Int32)) A_ring_3 A_buffer_3 A_firstPlace_3 A_forcedPlace_3 A_endPlace_3 A_wordsToFailure_3 A_opened_3 hw _ _ hP hD hS ls (lv_sub hl [1, 2, 3, 4, 0] rfl)
  have hC46 : ∀ (k46_1 : Int32) (k46_2 : Int32) (A_ring_L46 : Nat → Int32) (A_buffer_L46 : Nat → Int32) (A_firstPlace_L46 : Int32) (A_forcedPlace_L46 : Int32) (A_endPlace_L46 : Int32) (A_wordsToFailure_L46 : Int32) (A_opened_L46 : Int32), wc_X0_addVoidRest_46 post k46_1 k46_2 A_ring_L46 A_buffer_L46 A_firstPlace_L46 A_forcedPlace_L46 A_endPlace_L46 A_wordsToFailure_L46 A_opened_L46 → ∀ (H : Heap) (locs : List Loc), va_P (dC, dI) vwCl [(qA, .inr (0, [.ref qA_ring, .ref qA_buffer, .int A_firstPlace_L46, .int A_forcedPlace_L46, .int A_endPlace_L46, .int A_wordsToFailure_L46, .int A_opened_L46])), (qA_ring, .inl (cA_ring, 65536, .inl A_ring_L46)), (qA_buffer, .inl (cA_buffer, 200, .inl A_buffer_L46))] H → va_D A [(qA, .inr (0, [.ref qA_ring, .ref qA_buffer, .int A_firstPlace_L46, .int A_forcedPlace_L46, .int A_endPlace_L46, .int A_wordsToFailure_L46, .int A_opened_L46])), (qA_ring, .inl (cA_ring, 65536, .inl A_ring_L46)), (qA_buffer, .inl (cA_buffer, 200, .inl A_buffer_L46))] → va_S A s.heap H locs → ∀ ls : Array Slot, lv_has ls 5 [(0, .ref qA), (1, .int k46_1), (2, .int k46_2)] → W p l e (headSpec wsX0_addVoidRest ({ frames := 2, cells := 0, slots := 0, locals := 42 } : Room)).room s m args below meth c H locs 0 0 QQ (F0 m 46 ls []) := by
    intro k46_1 k46_2 A_ring_L46 A_buffer_L46 A_firstPlace_L46 A_forcedPlace_L46 A_endPlace_L46 A_wordsToFailure_L46 A_opened_L46 hw H locs hP hD hS ls hl
    unfold wc_X0_addVoidRest_46 at hw
    refine lv_iload_n hx hb dX0_addVoidRest_46 rfl (lv_at hl 1 rfl) ?_
    refine lv_aload_n hx hb dX0_addVoidRest_47 rfl (lv_at hl 0 rfl) ?_
    refine va_get (D := (dC, dI)) (ci := 0) (v := .int A_endPlace_L46) (C := RX0) (T := TX0) (N := 7) hx hb hbg in_X0 hown hK hP 0 rfl rfl 4 (by decide) (hbg _ kw_12) (fun _ h9 => h9) rfl dX0_addVoidRest_48 ?_
    refine lv_icmp_lt (tgt := 55) hx hb dX0_addVoidRest_51 (by decide) (fun c9 => ?_) (fun c9 => ?_)
    · have hw := hw.1 c9
      refine lv_aload_n hx hb dX0_addVoidRest_55 rfl (lv_at hl 0 rfl) ?_
      refine lv_iload_n hx hb dX0_addVoidRest_56 rfl (lv_at hl 1 rfl) ?_
      refine vp_callSi (W.runV (As := [.int k46_1]) (rest := []) ⟨hx, hb, hml, hown, hbg⟩ (met_X0_wordAt l dC dI qA qA_ring qA_buffer cA_ring cA_buffer A_ring_L46 A_buffer_L46 A_firstPlace_L46 A_forcedPlace_L46 A_endPlace_L46 A_wordsToFailure_L46 A_opened_L46 k46_1 _ hw) (cwV 1 hbg g_RX0_97 rfl rfl rfl (by decide +kernel) ⟨Nat.le_of_ble_eq_true rfl, Nat.le_of_ble_eq_true rfl⟩) ⟨pcR_A_b _ _ _ _ _ _ _ _ _ _ _ _ _ _ _ , va_recv hK hP (ci := 0) (q0 := 0) rfl rfl, fun U hU hW => ⟨rfl, by rw [hU]; exact hP, va_K.moved hW.alike hK⟩⟩ rfl rfl hl.1 rfl (lv_room (Nat.le_of_ble_eq_true rfl)) dX0_addVoidRest_57 ⟨Nat.le_of_ble_eq_true rfl, Nat.le_of_ble_eq_true rfl⟩) (fun r_4 hw => ?_)
      try dsimp only at hw
      refine lv_istore_n (lv' := [(2, .int r_4), (0, .ref qA), (1, .int k46_1)]) hx hb dX0_addVoidRest_60 rfl hl (by decide) rfl (fun ls hl => ?_)
      refine lv_aload_n hx hb dX0_addVoidRest_61 rfl (lv_at hl 1 rfl) ?_
      refine lv_iload_n hx hb dX0_addVoidRest_62 rfl (lv_at hl 2 rfl) ?_
      refine vp_callSi (W.runV (As := [.int k46_1]) (rest := []) ⟨hx, hb, hml, hown, hbg⟩ (met_X0_behind l dC dI qA qA_ring qA_buffer cA_ring cA_buffer A_ring_L46 A_buffer_L46 A_firstPlace_L46 A_forcedPlace_L46 A_endPlace_L46 A_wordsToFailure_L46 A_opened_L46 k46_1 _ hw) (cwV 1 hbg g_RX0_74 rfl rfl rfl (by decide +kernel) ⟨Nat.le_of_ble_eq_true rfl, Nat.le_of_ble_eq_true rfl⟩) ⟨pcR_A_b _ _ _ _ _ _ _ _ _ _ _ _ _ _ _ , va_recv hK hP (ci := 0) (q0 := 0) rfl rfl, fun U hU hW => ⟨rfl, by rw [hU]; exact hP, va_K.moved hW.alike hK⟩⟩ rfl rfl hl.1 rfl (lv_room (Nat.le_of_ble_eq_true rfl)) dX0_addVoidRest_63 ⟨Nat.le_of_ble_eq_true rfl, Nat.le_of_ble_eq_true rfl⟩) (fun r_5 hw => ?_)
      try dsimp only at hw
      refine lv_aload_n hx hb dX0_addVoidRest_66 rfl (lv_at hl 1 rfl) ?_
      refine va_get (D := (dC, dI)) (ci := 0) (v := .int A_endPlace_L46) (C := RX0) (T := TX0) (N := 7) hx hb hbg in_X0 hown hK hP 0 rfl rfl 4 (by decide) (hbg _ kw_12) (fun _ h9 => h9) rfl dX0_addVoidRest_67 ?_
      refine lv_isub hx hb dX0_addVoidRest_70 ?_
      refine lv_istore_n (lv' := [(3, .int (r_5 - A_endPlace_L46)), (2, .int r_4), (0, .ref qA), (1, .int k46_1)]) hx hb dX0_addVoidRest_71 rfl hl (by decide) rfl (fun ls hl => ?_)
      refine lv_iconst (v := (1 : Int32)) hx hb dX0_addVoidRest_72 (by decide) ?_
      refine lv_istore (lv' := [(4, .int (1 : Int32)), (3, .int (r_5 - A_endPlace_L46)), (2, .int r_4), (0, .ref qA), (1, .int k46_1)]) hx hb dX0_addVoidRest_73 hl (by decide) rfl (fun ls hl => ?_)
      obtain ⟨n9, hw⟩ := hw
      exact hL75 n9 k46_1 r_4 (r_5 - A_endPlace_L46) (1 : Int32) A_ring_L46 A_buffer_L46 A_firstPlace_L46 A_forcedPlace_L46 A_endPlace_L46 A_wordsToFailure_L46 A_opened_L46 hw _ _ hP hD hS ls (lv_sub hl [3, 4, 2, 1, 0] rfl)
    · have hw := hw.2 c9
      subst hQQ
      exact W.vret hx hb hr (fun t ht hW => ⟨⟨(A_ring_L46, A_buffer_L46, A_firstPlace_L46, A_forcedPlace_L46, A_endPlace_L46, A_wordsToFailure_L46, A_opened_L46), rfl, hw, by rw [ht]; exact hP, va_K.moved hW.alike hK, hD⟩, hS.F ht⟩) hS.2.2 dX0_addVoidRest_54
  have hL7 : ∀ (n7 : Nat) (y7_1 : Int32) (y7_2 : Int32) (A_ring_L7 : Nat → Int32) (A_buffer_L7 : Nat → Int32) (A_firstPlace_L7 : Int32) (A_forcedPlace_L7 : Int32) (A_endPlace_L7 : Int32) (A_wordsToFailure_L7 : Int32) (A_opened_L7 : Int32), wl_X0_addVoidRest_7 post n7 y7_1 y7_2 A_ring_L7 A_buffer_L7 A_firstPlace_L7 A_forcedPlace_L7 A_endPlace_L7 A_wordsToFailure_L7 A_opened_L7 → ∀ (H : Heap) (locs : List Loc), va_P (dC, dI) vwCl [(qA, .inr (0, [.ref qA_ring, .ref qA_buffer, .int A_firstPlace_L7, .int A_forcedPlace_L7, .int A_endPlace_L7, .int A_wordsToFailure_L7, .int A_opened_L7])), (qA_ring, .inl (cA_ring, 65536, .inl A_ring_L7)), (qA_buffer, .inl (cA_buffer, 200, .inl A_buffer_L7))] H → va_D A [(qA, .inr (0, [.ref qA_ring, .ref qA_buffer, .int A_firstPlace_L7, .int A_forcedPlace_L7, .int A_endPlace_L7, .int A_wordsToFailure_L7, .int A_opened_L7])), (qA_ring, .inl (cA_ring, 65536, .inl A_ring_L7)), (qA_buffer, .inl (cA_buffer, 200, .inl A_buffer_L7))] → va_S A s.heap H locs → ∀ ls : Array Slot, lv_has ls 5 [(0, .ref qA), (1, .int y7_1), (2, .int y7_2)] → W p l e (headSpec wsX0_addVoidRest ({ frames := 2, cells := 0, slots := 0, locals := 42 } : Room)).room s m args below meth c H locs 0 0 QQ (F0 m 7 ls []) := by
    intro n7
    induction n7 with
    | zero => intro y7_1 y7_2 A_ring_L7 A_buffer_L7 A_firstPlace_L7 A_forcedPlace_L7 A_endPlace_L7 A_wordsToFailure_L7 A_opened_L7 hw; exact False.elim hw
    | succ n7 ih7 =>
      intro y7_1 y7_2 A_ring_L7 A_buffer_L7 A_firstPlace_L7 A_forcedPlace_L7 A_endPlace_L7 A_wordsToFailure_L7 A_opened_L7 hw H locs hP hD hS ls hl
      rw [wl_X0_addVoidRest_7] at hw
      refine lv_iload_n hx hb dX0_addVoidRest_7 rfl (lv_at hl 2 rfl) ?_
      refine lv_sipush (v := (13107 : Int32)) hx hb dX0_addVoidRest_8 (by decide) ?_
      refine lv_icmp_ge (tgt := 46) hx hb dX0_addVoidRest_11 (by decide) (fun c9 => ?_) (fun c9 => ?_)
      · have hw := hw.1 c9
        exact hC46 y7_1 y7_2 A_ring_L7 A_buffer_L7 A_firstPlace_L7 A_forcedPlace_L7 A_endPlace_L7 A_wordsToFailure_L7 A_opened_L7 hw _ _ hP hD hS ls (lv_sub hl [0, 1, 2] rfl)
      · have hw := hw.2 c9
        refine lv_iload_n hx hb dX0_addVoidRest_14 rfl (lv_at hl 1 rfl) ?_
        refine lv_aload_n hx hb dX0_addVoidRest_15 rfl (lv_at hl 0 rfl) ?_
        refine va_get (D := (dC, dI)) (ci := 0) (v := .int A_endPlace_L7) (C := RX0) (T := TX0) (N := 7) hx hb hbg in_X0 hown hK hP 0 rfl rfl 4 (by decide) (hbg _ kw_12) (fun _ h9 => h9) rfl dX0_addVoidRest_16 ?_
        refine lv_icmp_ge (tgt := 46) hx hb dX0_addVoidRest_19 (by decide) (fun c9 => ?_) (fun c9 => ?_)
        · have hw := hw.1 c9
          exact hC46 y7_1 y7_2 A_ring_L7 A_buffer_L7 A_firstPlace_L7 A_forcedPlace_L7 A_endPlace_L7 A_wordsToFailure_L7 A_opened_L7 hw _ _ hP hD hS ls (lv_sub hl [0, 1, 2] rfl)
        · have hw := hw.2 c9
          refine lv_aload_n hx hb dX0_addVoidRest_22 rfl (lv_at hl 0 rfl) ?_
          refine lv_iload_n hx hb dX0_addVoidRest_23 rfl (lv_at hl 1 rfl) ?_
          refine vp_callSi (W.runV (As := [.int y7_1]) (rest := []) ⟨hx, hb, hml, hown, hbg⟩ (met_X0_behind l dC dI qA qA_ring qA_buffer cA_ring cA_buffer A_ring_L7 A_buffer_L7 A_firstPlace_L7 A_forcedPlace_L7 A_endPlace_L7 A_wordsToFailure_L7 A_opened_L7 y7_1 _ hw) (cwV 1 hbg g_RX0_74 rfl rfl rfl (by decide +kernel) ⟨Nat.le_of_ble_eq_true rfl, Nat.le_of_ble_eq_true rfl⟩) ⟨pcR_A_b _ _ _ _ _ _ _ _ _ _ _ _ _ _ _ , va_recv hK hP (ci := 0) (q0 := 0) rfl rfl, fun U hU hW => ⟨rfl, by rw [hU]; exact hP, va_K.moved hW.alike hK⟩⟩ rfl rfl hl.1 rfl (lv_room (Nat.le_of_ble_eq_true rfl)) dX0_addVoidRest_24 ⟨Nat.le_of_ble_eq_true rfl, Nat.le_of_ble_eq_true rfl⟩) (fun r_1 hw => ?_)
          try dsimp only at hw
          refine lv_aload_n hx hb dX0_addVoidRest_27 rfl (lv_at hl 0 rfl) ?_
          refine va_get (D := (dC, dI)) (ci := 0) (v := .int A_endPlace_L7) (C := RX0) (T := TX0) (N := 7) hx hb hbg in_X0 hown hK hP 0 rfl rfl 4 (by decide) (hbg _ kw_12) (fun _ h9 => h9) rfl dX0_addVoidRest_28 ?_
          refine lv_icmp_gt (tgt := 46) hx hb dX0_addVoidRest_31 (by decide) (fun c9 => ?_) (fun c9 => ?_)
          · have hw := hw.1 c9
            exact hC46 y7_1 y7_2 A_ring_L7 A_buffer_L7 A_firstPlace_L7 A_forcedPlace_L7 A_endPlace_L7 A_wordsToFailure_L7 A_opened_L7 hw _ _ hP hD hS ls (lv_sub hl [0, 1, 2] rfl)
          · have hw := hw.2 c9
            refine lv_aload_n hx hb dX0_addVoidRest_34 rfl (lv_at hl 0 rfl) ?_
            refine lv_iload_n hx hb dX0_addVoidRest_35 rfl (lv_at hl 1 rfl) ?_
            refine vp_callSi (W.runV (As := [.int y7_1]) (rest := []) ⟨hx, hb, hml, hown, hbg⟩ (met_X0_behind l dC dI qA qA_ring qA_buffer cA_ring cA_buffer A_ring_L7 A_buffer_L7 A_firstPlace_L7 A_forcedPlace_L7 A_endPlace_L7 A_wordsToFailure_L7 A_opened_L7 y7_1 _ hw) (cwV 1 hbg g_RX0_74 rfl rfl rfl (by decide +kernel) ⟨Nat.le_of_ble_eq_true rfl, Nat.le_of_ble_eq_true rfl⟩) ⟨pcR_A_b _ _ _ _ _ _ _ _ _ _ _ _ _ _ _ , va_recv hK hP (ci := 0) (q0 := 0) rfl rfl, fun U hU hW => ⟨rfl, by rw [hU]; exact hP, va_K.moved hW.alike hK⟩⟩ rfl rfl hl.1 rfl (lv_room (Nat.le_of_ble_eq_true rfl)) dX0_addVoidRest_36 ⟨Nat.le_of_ble_eq_true rfl, Nat.le_of_ble_eq_true rfl⟩) (fun r_2 hw => ?_)
            try dsimp only at hw
            refine lv_istore_n (lv' := [(1, .int r_2), (0, .ref qA), (2, .int y7_2)]) hx hb dX0_addVoidRest_39 rfl hl (by decide) rfl (fun ls hl => ?_)
            refine lv_iinc (v := y7_2 + (1 : Int32)) (lv' := [(2, .int (y7_2 + (1 : Int32))), (1, .int r_2), (0, .ref qA)]) hx hb dX0_addVoidRest_40 hl (k := 2) rfl rfl (by decide) rfl (fun ls hl => ?_)
            refine lv_goto (tgt := 7) hx hb dX0_addVoidRest_43 (by decide) ?_
            exact ih7 r_2 (y7_2 + (1 : Int32)) A_ring_L7 A_buffer_L7 A_firstPlace_L7 A_forcedPlace_L7 A_endPlace_L7 A_wordsToFailure_L7 A_opened_L7 hw _ _ hP hD hS ls (lv_sub hl [2, 1, 0] rfl)
  refine lv_aload_n hx hb dX0_addVoidRest_0 rfl (lv_at hl 0 rfl) ?_
  refine va_get (D := (dC, dI)) (ci := 0) (v := .int A_firstPlace) (C := RX0) (T := TX0) (N := 7) hx hb hbg in_X0 hown hK hP 0 rfl rfl 2 (by decide) (hbg _ kw_2) (fun _ h9 => h9) rfl dX0_addVoidRest_1 ?_
  refine lv_istore_n (lv' := [(1, .int A_firstPlace), (0, .ref qA)]) hx hb dX0_addVoidRest_4 rfl hl (by decide) rfl (fun ls hl => ?_)
  refine lv_iconst (v := (0 : Int32)) hx hb dX0_addVoidRest_5 (by decide) ?_
  refine lv_istore_n (lv' := [(2, .int (0 : Int32)), (1, .int A_firstPlace), (0, .ref qA)]) hx hb dX0_addVoidRest_6 rfl hl (by decide) rfl (fun ls hl => ?_)
  obtain ⟨n9, hw⟩ := hw
  exact hL7 n9 A_firstPlace (0 : Int32) A_ring A_buffer A_firstPlace A_forcedPlace A_endPlace A_wordsToFailure A_opened hw _ _ hP hD hS ls (lv_sub hl [2, 1, 0] rfl)
