def wp_X0_addWord (post : St_A → Prop) (x1 : Int32) (A_ring : Nat → Int32) (A_buffer : Nat → Int32) (A_firstPlace : Int32) (A_forcedPlace : Int32) (A_endPlace : Int32) (A_wordsToFailure : Int32) (A_opened : Int32) : Prop :=
  vp_in (A_endPlace &&& (65535 : Int32)) 65536 ∧ (post (upd A_ring (A_endPlace &&& (65535 : Int32)).toNatClampNeg x1, A_buffer, A_firstPlace, A_forcedPlace, A_endPlace + (1 : Int32), A_wordsToFailure, A_opened))
set_option maxHeartbeats 4000000 in
set_option maxRecDepth 100000 in
theorem met_X0_addWord (l : Launch) (dC : Nat → ClassId) (dI : Nat → Nat → Nat) (qA qA_ring qA_buffer : Nat) (cA_ring cA_buffer : ClassId) (sz : Nat) (A_ring : Nat → Int32) (A_buffer : Nat → Int32) (A_firstPlace : Int32) (A_forcedPlace : Int32) (A_endPlace : Int32) (A_wordsToFailure : Int32) (A_opened : Int32) (x1 : Int32) (post : St_A → Prop) (hw : wp_X0_addWord post x1 A_ring A_buffer A_firstPlace A_forcedPlace A_endPlace A_wordsToFailure A_opened) :
    Met l yX0_addWord wsX0_addWord ({ frames := 0, cells := 0, slots := 0, locals := 0 } : Room) (pcW_A dC dI qA qA_ring qA_buffer cA_ring cA_buffer sz A_ring A_buffer A_firstPlace A_forcedPlace A_endPlace A_wordsToFailure A_opened [.ref qA, .int x1]) (va_Qv post (at_A dC dI (va_A [(qA, .inr (0, [.ref qA_ring, .ref qA_buffer, .int A_firstPlace, .int A_forcedPlace, .int A_endPlace, .int A_wordsToFailure, .int A_opened])), (qA_ring, .inl (cA_ring, 65536, .inl A_ring)), (qA_buffer, .inl (cA_buffer, 200, .inl A_buffer))] sz) qA qA_ring qA_buffer cA_ring cA_buffer) (va_A [(qA, .inr (0, [.ref qA_ring, .ref qA_buffer, .int A_firstPlace, .int A_forcedPlace, .int A_endPlace, .int A_wordsToFailure, .int A_opened])), (qA_ring, .inl (cA_ring, 65536, .inl A_ring)), (qA_buffer, .inl (cA_buffer, 200, .inl A_buffer))] sz)) 0 0 (va_A [(qA, .inr (0, [.ref qA_ring, .ref qA_buffer, .int A_firstPlace, .int A_forcedPlace, .int A_endPlace, .int A_wordsToFailure, .int A_opened])), (qA_ring, .inl (cA_ring, 65536, .inl A_ring)), (qA_buffer, .inl (cA_buffer, 200, .inl A_buffer))] sz) := by
  refine Met.ofW (cc := cX0_addWord) (maxL := 2) (ret := none) (by decide) rfl ?_
  intro p e s m args below meth c s₁ B hml hv
  obtain ⟨hav, hsz, hP, hK, hD0⟩ := hv
  have hx := B.exec
  have hb := B.bytes
  have hr := B.returns
  have hts := atoms_spec (ws := wsX0_addWord) B.pre
  have hbg : ∀ w ∈ bigW, w.before args s = true := fun w h => hts w (List.mem_cons_of_mem _ h)
  have hown : s.vm.findClass RX0 = some m.cls := findClass_of_methodNamed B.named
  have hlocks := B.notSynchronized
  subst hsz
  have hD := hD0.self (sz := s.heap.size)
  generalize hAe : va_A [(qA, .inr (0, [.ref qA_ring, .ref qA_buffer, .int A_firstPlace, .int A_forcedPlace, .int A_endPlace, .int A_wordsToFailure, .int A_opened])), (qA_ring, .inl (cA_ring, 65536, .inl A_ring)), (qA_buffer, .inl (cA_buffer, 200, .inl A_buffer))] s.heap.size = A at hD ⊢
  have hA : ∀ q : Nat, s.heap.size ≤ q → A q := fun q h => by rw [← hAe]; exact Or.inr h
  have hS : va_S A s.heap s.heap [] := va_S.rf
  have hP : va_P (dC, dI) vwCl [(qA, .inr (0, [.ref qA_ring, .ref qA_buffer, .int A_firstPlace, .int A_forcedPlace, .int A_endPlace, .int A_wordsToFailure, .int A_opened])), (qA_ring, .inl (cA_ring, 65536, .inl A_ring)), (qA_buffer, .inl (cA_buffer, 200, .inl A_buffer))] s.heap := hP
  generalize hQQ : MQ below (va_Qv post (at_A dC dI A qA qA_ring qA_buffer cA_ring cA_buffer) A) args s 0 0 A = QQ
  have hl := lv_entry ([.ref qA, .int x1]) (n := 2) (Nat.le_of_ble_eq_true rfl)
  rw [show entryFrame m args 2 = entryFrame m ([.ref qA, .int x1] : List Value).toArray 2 by rw [hav], lg_entry_eq]
  generalize (lg_sl ([.ref qA, .int x1]) ++ List.replicate (2 - (lg_sl ([.ref qA, .int x1])).length) Slot.unset).toArray = ls at hl ⊢
  have hl : lv_has ls 2 [(0, .ref qA), (1, .int x1)] := hl
  unfold wp_X0_addWord at hw
  refine lv_aload_n hx hb dX0_addWord_0 rfl (lv_at hl 0 rfl) ?_
  refine va_get (D := (dC, dI)) (ci := 0) (v := .ref qA_ring) (C := RX0) (T := TX0) (N := 7) hx hb hbg in_X0 hown hK hP 0 rfl rfl 0 (by decide) (hbg _ kw_0) (fun _ h9 => h9) rfl dX0_addWord_1 ?_
  refine lv_aload_n hx hb dX0_addWord_4 rfl (lv_at hl 0 rfl) ?_
  refine va_get (D := (dC, dI)) (ci := 0) (v := .int A_endPlace) (C := RX0) (T := TX0) (N := 7) hx hb hbg in_X0 hown hK hP 0 rfl rfl 4 (by decide) (hbg _ kw_12) (fun _ h9 => h9) rfl dX0_addWord_5 ?_
  refine lv_ldc (v := (65535 : Int32)) hx hb hown (hbg _ kw_1) dX0_addWord_8 ?_
  refine lv_iand hx hb dX0_addWord_10 ?_
  refine lv_iload_n hx hb dX0_addWord_11 rfl (lv_at hl 1 rfl) ?_
  obtain ⟨h_1, hw⟩ := hw
  refine va_iast hx hb hK hP hD hS 1 0 rfl rfl h_1 dX0_addWord_12 (fun H_2 locs hP hD hS => ?_)
  have hP : va_P (dC, dI) vwCl [(qA, .inr (0, [.ref qA_ring, .ref qA_buffer, .int A_firstPlace, .int A_forcedPlace, .int A_endPlace, .int A_wordsToFailure, .int A_opened])), (qA_ring, .inl (cA_ring, 65536, .inl (upd A_ring (A_endPlace &&& (65535 : Int32)).toNatClampNeg x1))), (qA_buffer, .inl (cA_buffer, 200, .inl A_buffer))] H_2 := hP
  have hD : va_D A [(qA, .inr (0, [.ref qA_ring, .ref qA_buffer, .int A_firstPlace, .int A_forcedPlace, .int A_endPlace, .int A_wordsToFailure, .int A_opened])), (qA_ring, .inl (cA_ring, 65536, .inl (upd A_ring (A_endPlace &&& (65535 : Int32)).toNatClampNeg x1))), (qA_buffer, .inl (cA_buffer, 200, .inl A_buffer))] := hD
  refine lv_aload_n hx hb dX0_addWord_13 rfl (lv_at hl 0 rfl) ?_
  refine lv_dup hx hb dX0_addWord_14 rfl ?_
  refine va_get (D := (dC, dI)) (ci := 0) (v := .int A_endPlace) (C := RX0) (T := TX0) (N := 7) hx hb hbg in_X0 hown hK hP 0 rfl rfl 4 (by decide) (hbg _ kw_12) (fun _ h9 => h9) rfl dX0_addWord_15 ?_
  refine lv_iconst (v := (1 : Int32)) hx hb dX0_addWord_18 (by decide) ?_
  refine lv_iadd hx hb dX0_addWord_19 ?_
  refine va_put (D := (dC, dI)) (ci := 0) (v := .int (A_endPlace + (1 : Int32))) (ty := .int) (C := RX0) (T := TX0) (N := 7) hx hb hbg in_X0 tyX0 tyX0_ok nmX0 hown hK hP hD hS 0 rfl rfl 4 (by decide) (hbg _ kw_12) (fun _ h9 => h9) rfl (by decide +kernel) rfl rfl (Nat.le_of_ble_eq_true rfl) dX0_addWord_20 (fun H_3 locs hP hD hS => ?_)
  have hP : va_P (dC, dI) vwCl [(qA, .inr (0, [.ref qA_ring, .ref qA_buffer, .int A_firstPlace, .int A_forcedPlace, .int (A_endPlace + (1 : Int32)), .int A_wordsToFailure, .int A_opened])), (qA_ring, .inl (cA_ring, 65536, .inl (upd A_ring (A_endPlace &&& (65535 : Int32)).toNatClampNeg x1))), (qA_buffer, .inl (cA_buffer, 200, .inl A_buffer))] H_3 := hP
  have hD : va_D A [(qA, .inr (0, [.ref qA_ring, .ref qA_buffer, .int A_firstPlace, .int A_forcedPlace, .int (A_endPlace + (1 : Int32)), .int A_wordsToFailure, .int A_opened])), (qA_ring, .inl (cA_ring, 65536, .inl (upd A_ring (A_endPlace &&& (65535 : Int32)).toNatClampNeg x1))), (qA_buffer, .inl (cA_buffer, 200, .inl A_buffer))] := hD
  subst hQQ
  exact W.vret hx hb hr (fun t ht hW => ⟨⟨(upd A_ring (A_endPlace &&& (65535 : Int32)).toNatClampNeg x1, A_buffer, A_firstPlace, A_forcedPlace, A_endPlace + (1 : Int32), A_wordsToFailure, A_opened), rfl, hw, by rw [ht]; exact hP, va_K.moved hW.alike hK, hD⟩, hS.F ht⟩) hS.2.2 dX0_addWord_23
def wl_X0_addContent_2 (post : St_A → Prop) (k2_1 : Int32) : Nat → Int32 → (Nat → Int32) → (Nat → Int32) → Int32 → Int32 → Int32 → Int32 → Int32 → Prop
  | 0, _, _, _, _, _, _, _, _ => False
  | n2 + 1, y2_2, A_ring_L2, A_buffer_L2, A_firstPlace_L2, A_forcedPlace_L2, A_endPlace_L2, A_wordsToFailure_L2, A_opened_L2 =>
    ((k2_1 ≤ y2_2 → post (A_ring_L2, A_buffer_L2, A_firstPlace_L2, A_forcedPlace_L2, A_endPlace_L2, A_wordsToFailure_L2, A_opened_L2)) ∧ (¬ k2_1 ≤ y2_2 → (((200 : Int32) ≤ y2_2 → post (A_ring_L2, A_buffer_L2, A_firstPlace_L2, A_forcedPlace_L2, A_endPlace_L2, A_wordsToFailure_L2, A_opened_L2)) ∧ (¬ (200 : Int32) ≤ y2_2 → vp_in y2_2 200 ∧ (wp_X0_addWord (fun u_2 => match u_2 with | (A_ring_2, A_buffer_2, A_firstPlace_2, A_forcedPlace_2, A_endPlace_2, A_wordsToFailure_2, A_opened_2) => wl_X0_addContent_2 post k2_1 n2 (y2_2 + (1 : Int32)) A_ring_2 A_buffer_2 A_firstPlace_2 A_forcedPlace_2 A_endPlace_2 A_wordsToFailure_2 A_opened_2) (A_buffer_L2 y2_2.toNatClampNeg) A_ring_L2 A_buffer_L2 A_firstPlace_L2 A_forcedPlace_L2 A_endPlace_L2 A_wordsToFailure_L2 A_opened_L2)))))
def wp_X0_addContent (post : St_A → Prop) (x1 : Int32) (A_ring : Nat → Int32) (A_buffer : Nat → Int32) (A_firstPlace : Int32) (A_forcedPlace : Int32) (A_endPlace : Int32) (A_wordsToFailure : Int32) (A_opened : Int32) : Prop :=
  ∃ n, wl_X0_addContent_2 post x1 n (0 : Int32) A_ring A_buffer A_firstPlace A_forcedPlace A_endPlace A_wordsToFailure A_opened
set_option maxHeartbeats 4000000 in
set_option maxRecDepth 100000 in
theorem met_X0_addContent (l : Launch) (dC : Nat → ClassId) (dI : Nat → Nat → Nat) (qA qA_ring qA_buffer : Nat) (cA_ring cA_buffer : ClassId) (sz : Nat) (A_ring : Nat → Int32) (A_buffer : Nat → Int32) (A_firstPlace : Int32) (A_forcedPlace : Int32) (A_endPlace : Int32) (A_wordsToFailure : Int32) (A_opened : Int32) (x1 : Int32) (post : St_A → Prop) (hw : wp_X0_addContent post x1 A_ring A_buffer A_firstPlace A_forcedPlace A_endPlace A_wordsToFailure A_opened) :
    Met l yX0_addContent wsX0_addContent ({ frames := 1, cells := 0, slots := 0, locals := 21 } : Room) (pcW_A dC dI qA qA_ring qA_buffer cA_ring cA_buffer sz A_ring A_buffer A_firstPlace A_forcedPlace A_endPlace A_wordsToFailure A_opened [.ref qA, .int x1]) (va_Qv post (at_A dC dI (va_A [(qA, .inr (0, [.ref qA_ring, .ref qA_buffer, .int A_firstPlace, .int A_forcedPlace, .int A_endPlace, .int A_wordsToFailure, .int A_opened])), (qA_ring, .inl (cA_ring, 65536, .inl A_ring)), (qA_buffer, .inl (cA_buffer, 200, .inl A_buffer))] sz) qA qA_ring qA_buffer cA_ring cA_buffer) (va_A [(qA, .inr (0, [.ref qA_ring, .ref qA_buffer, .int A_firstPlace, .int A_forcedPlace, .int A_endPlace, .int A_wordsToFailure, .int A_opened])), (qA_ring, .inl (cA_ring, 65536, .inl A_ring)), (qA_buffer, .inl (cA_buffer, 200, .inl A_buffer))] sz)) 0 0 (va_A [(qA, .inr (0, [.ref qA_ring, .ref qA_buffer, .int A_firstPlace, .int A_forcedPlace, .int A_endPlace, .int A_wordsToFailure, .int A_opened])), (qA_ring, .inl (cA_ring, 65536, .inl A_ring)), (qA_buffer, .inl (cA_buffer, 200, .inl A_buffer))] sz) := by
  refine Met.ofW (cc := cX0_addContent) (maxL := 3) (ret := none) (by decide) rfl ?_
  intro p e s m args below meth c s₁ B hml hv
  obtain ⟨hav, hsz, hP, hK, hD0⟩ := hv
  have hx := B.exec
  have hb := B.bytes
  have hr := B.returns
  have hts := atoms_spec (ws := wsX0_addContent) B.pre
  have hbg : ∀ w ∈ bigW, w.before args s = true := fun w h => hts w (List.mem_cons_of_mem _ h)
  have hown : s.vm.findClass RX0 = some m.cls := findClass_of_methodNamed B.named
  have hlocks := B.notSynchronized
  subst hsz
  have hD := hD0.self (sz := s.heap.size)
  generalize hAe : va_A [(qA, .inr (0, [.ref qA_ring, .ref qA_buffer, .int A_firstPlace, .int A_forcedPlace, .int A_endPlace, .int A_wordsToFailure, .int A_opened])), (qA_ring, .inl (cA_ring, 65536, .inl A_ring)), (qA_buffer, .inl (cA_buffer, 200, .inl A_buffer))] s.heap.size = A at hD ⊢
  have hA : ∀ q : Nat, s.heap.size ≤ q → A q := fun q h => by rw [← hAe]; exact Or.inr h
  have hS : va_S A s.heap s.heap [] := va_S.rf
  have hP : va_P (dC, dI) vwCl [(qA, .inr (0, [.ref qA_ring, .ref qA_buffer, .int A_firstPlace, .int A_forcedPlace, .int A_endPlace, .int A_wordsToFailure, .int A_opened])), (qA_ring, .inl (cA_ring, 65536, .inl A_ring)), (qA_buffer, .inl (cA_buffer, 200, .inl A_buffer))] s.heap := hP
  generalize hQQ : MQ below (va_Qv post (at_A dC dI A qA qA_ring qA_buffer cA_ring cA_buffer) A) args s 0 0 A = QQ
  have hl := lv_entry ([.ref qA, .int x1]) (n := 3) (Nat.le_of_ble_eq_true rfl)
  rw [show entryFrame m args 3 = entryFrame m ([.ref qA, .int x1] : List Value).toArray 3 by rw [hav], lg_entry_eq]
  generalize (lg_sl ([.ref qA, .int x1]) ++ List.replicate (3 - (lg_sl ([.ref qA, .int x1])).length) Slot.unset).toArray = ls at hl ⊢
  have hl : lv_has ls 3 [(0, .ref qA), (1, .int x1)] := hl
  unfold wp_X0_addContent at hw
  have hL2 : ∀ (n2 : Nat) (k2_1 : Int32) (y2_2 : Int32) (A_ring_L2 : Nat → Int32) (A_buffer_L2 : Nat → Int32) (A_firstPlace_L2 : Int32) (A_forcedPlace_L2 : Int32) (A_endPlace_L2 : Int32) (A_wordsToFailure_L2 : Int32) (A_opened_L2 : Int32), wl_X0_addContent_2 post k2_1 n2 y2_2 A_ring_L2 A_buffer_L2 A_firstPlace_L2 A_forcedPlace_L2 A_endPlace_L2 A_wordsToFailure_L2 A_opened_L2 → ∀ (H : Heap) (locs : List Loc), va_P (dC, dI) vwCl [(qA, .inr (0, [.ref qA_ring, .ref qA_buffer, .int A_firstPlace_L2, .int A_forcedPlace_L2, .int A_endPlace_L2, .int A_wordsToFailure_L2, .int A_opened_L2])), (qA_ring, .inl (cA_ring, 65536, .inl A_ring_L2)), (qA_buffer, .inl (cA_buffer, 200, .inl A_buffer_L2))] H → va_D A [(qA, .inr (0, [.ref qA_ring, .ref qA_buffer, .int A_firstPlace_L2, .int A_forcedPlace_L2, .int A_endPlace_L2, .int A_wordsToFailure_L2, .int A_opened_L2])), (qA_ring, .inl (cA_ring, 65536, .inl A_ring_L2)), (qA_buffer, .inl (cA_buffer, 200, .inl A_buffer_L2))] → va_S A s.heap H locs → ∀ ls : Array Slot, lv_has ls 3 [(0, .ref qA), (1, .int k2_1), (2, .int y2_2)] → W p l e (headSpec wsX0_addContent ({ frames := 1, cells := 0, slots := 0, locals := 21 } : Room)).room s m args below meth c H locs 0 0 QQ (F0 m 2 ls []) := by
    intro n2
    induction n2 with
    | zero => intro k2_1 y2_2 A_ring_L2 A_buffer_L2 A_firstPlace_L2 A_forcedPlace_L2 A_endPlace_L2 A_wordsToFailure_L2 A_opened_L2 hw; exact False.elim hw
    | succ n2 ih2 =>
      intro k2_1 y2_2 A_ring_L2 A_buffer_L2 A_firstPlace_L2 A_forcedPlace_L2 A_endPlace_L2 A_wordsToFailure_L2 A_opened_L2 hw H locs hP hD hS ls hl
      rw [wl_X0_addContent_2] at hw
      refine lv_iload_n hx hb dX0_addContent_2 rfl (lv_at hl 2 rfl) ?_
      refine lv_iload_n hx hb dX0_addContent_3 rfl (lv_at hl 1 rfl) ?_
      refine lv_icmp_ge (tgt := 32) hx hb dX0_addContent_4 (by decide) (fun c9 => ?_) (fun c9 => ?_)
      · have hw := hw.1 c9
        subst hQQ
        exact W.vret hx hb hr (fun t ht hW => ⟨⟨(A_ring_L2, A_buffer_L2, A_firstPlace_L2, A_forcedPlace_L2, A_endPlace_L2, A_wordsToFailure_L2, A_opened_L2), rfl, hw, by rw [ht]; exact hP, va_K.moved hW.alike hK, hD⟩, hS.F ht⟩) hS.2.2 dX0_addContent_32
      · have hw := hw.2 c9
        refine lv_iload_n hx hb dX0_addContent_7 rfl (lv_at hl 2 rfl) ?_
        refine lv_aload_n hx hb dX0_addContent_8 rfl (lv_at hl 0 rfl) ?_
        refine va_get (D := (dC, dI)) (ci := 0) (v := .ref qA_buffer) (C := RX0) (T := TX0) (N := 7) hx hb hbg in_X0 hown hK hP 0 rfl rfl 1 (by decide) (hbg _ kw_37) (fun _ h9 => h9) rfl dX0_addContent_9 ?_
        refine va_alen (v := (200 : Int32)) hx hb hK hP 2 1 rfl rfl rfl dX0_addContent_12 ?_
        refine lv_icmp_ge (tgt := 32) hx hb dX0_addContent_13 (by decide) (fun c9 => ?_) (fun c9 => ?_)
        · have hw := hw.1 c9
          subst hQQ
          exact W.vret hx hb hr (fun t ht hW => ⟨⟨(A_ring_L2, A_buffer_L2, A_firstPlace_L2, A_forcedPlace_L2, A_endPlace_L2, A_wordsToFailure_L2, A_opened_L2), rfl, hw, by rw [ht]; exact hP, va_K.moved hW.alike hK, hD⟩, hS.F ht⟩) hS.2.2 dX0_addContent_32
        · have hw := hw.2 c9
          refine lv_aload_n hx hb dX0_addContent_16 rfl (lv_at hl 0 rfl) ?_
          refine lv_aload_n hx hb dX0_addContent_17 rfl (lv_at hl 0 rfl) ?_
          refine va_get (D := (dC, dI)) (ci := 0) (v := .ref qA_buffer) (C := RX0) (T := TX0) (N := 7) hx hb hbg in_X0 hown hK hP 0 rfl rfl 1 (by decide) (hbg _ kw_37) (fun _ h9 => h9) rfl dX0_addContent_18 ?_
          refine lv_iload_n hx hb dX0_addContent_21 rfl (lv_at hl 2 rfl) ?_
          obtain ⟨h_1, hw⟩ := hw
          refine va_iald hx hb hK hP 2 1 rfl rfl h_1 dX0_addContent_22 ?_
          have hFc := va_free (wc := [(qA, .inr (0, [.ref qA_ring, .ref qA_buffer, .int A_firstPlace_L2, .int A_forcedPlace_L2, .int A_endPlace_L2, .int A_wordsToFailure_L2, .int A_opened_L2])), (qA_ring, .inl (cA_ring, 65536, .inl A_ring_L2)), (qA_buffer, .inl (cA_buffer, 200, .inl A_buffer_L2))]) hD hS hA [0, 1, 2] rfl
          refine va_callv (va_runV (As := [.int (A_buffer_L2 y2_2.toNatClampNeg)]) (rest := []) ⟨hx, hb, hml, hown, hbg⟩ (met_X0_addWord l dC dI qA qA_ring qA_buffer cA_ring cA_buffer H.size A_ring_L2 A_buffer_L2 A_firstPlace_L2 A_forcedPlace_L2 A_endPlace_L2 A_wordsToFailure_L2 A_opened_L2 (A_buffer_L2 y2_2.toNatClampNeg) _ hw) (cwV 1 hbg g_RX0_65 rfl rfl rfl (by decide +kernel) ⟨Nat.le_of_ble_eq_true rfl, Nat.le_of_ble_eq_true rfl⟩) ⟨pcW_A_b _ _ _ _ _ _ _ _ _ _ _ _ _ _ _ _, va_recv hK hP (ci := 0) (q0 := 0) rfl rfl, fun U hU hW => ⟨rfl, by rw [hU], by rw [hU]; exact hP, va_K.moved hW.alike hK, hD.weaken (fun _ _ _ _ => trivial)⟩⟩ rfl rfl hl.1 rfl (lv_room (Nat.le_of_ble_eq_true rfl)) dX0_addContent_23 ⟨Nat.le_of_ble_eq_true rfl, Nat.le_of_ble_eq_true rfl⟩) hS (fun q _ h => hFc q h) hFc (fun u_2 t_2 H_2 locs ht hvm hw hB hz1 hk1 hS => ?_)
          obtain ⟨A_ring_2, A_buffer_2, A_firstPlace_2, A_forcedPlace_2, A_endPlace_2, A_wordsToFailure_2, A_opened_2⟩ := u_2
          obtain ⟨hP1, hK1, hD1⟩ := hB
          rw [ht] at hP1
          try dsimp only at hw
          have hP : va_P (dC, dI) vwCl [(qA, .inr (0, [.ref qA_ring, .ref qA_buffer, .int A_firstPlace_2, .int A_forcedPlace_2, .int A_endPlace_2, .int A_wordsToFailure_2, .int A_opened_2])), (qA_ring, .inl (cA_ring, 65536, .inl A_ring_2)), (qA_buffer, .inl (cA_buffer, 200, .inl A_buffer_2))] H_2 := hP1
          have hD : va_D A [(qA, .inr (0, [.ref qA_ring, .ref qA_buffer, .int A_firstPlace_2, .int A_forcedPlace_2, .int A_endPlace_2, .int A_wordsToFailure_2, .int A_opened_2])), (qA_ring, .inl (cA_ring, 65536, .inl A_ring_2)), (qA_buffer, .inl (cA_buffer, 200, .inl A_buffer_2))] := hD1.weaken (fun _ _ _ h => hFc _ h)
          refine lv_iinc (v := y2_2 + (1 : Int32)) (lv' := [(2, .int (y2_2 + (1 : Int32))), (0, .ref qA), (1, .int k2_1)]) hx hb dX0_addContent_26 hl (k := 2) rfl rfl (by decide) rfl (fun ls hl => ?_)
          refine lv_goto (tgt := 2) hx hb dX0_addContent_29 (by decide) ?_
          exact ih2 k2_1 (y2_2 + (1 : Int32)) A_ring_2 A_buffer_2 A_firstPlace_2 A_forcedPlace_2 A_endPlace_2 A_wordsToFailure_2 A_opened_2 hw _ _ hP hD hS ls (lv_sub hl [1, 2, 0] rfl)
  refine lv_iconst (v := (0 : Int32)) hx hb dX0_addContent_0 (by decide) ?_
  refine lv_istore_n (lv' := [(2, .int (0 : Int32)), (0, .ref qA), (1, .int x1)]) hx hb dX0_addContent_1 rfl hl (by decide) rfl (fun ls hl => ?_)
  obtain ⟨n9, hw⟩ := hw
  exact hL2 n9 x1 (0 : Int32) A_ring A_buffer A_firstPlace A_forcedPlace A_endPlace A_wordsToFailure A_opened hw _ _ hP hD hS ls (lv_sub hl [1, 2, 0] rfl)
