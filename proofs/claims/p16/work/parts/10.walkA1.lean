def wp_X0_wordAt (post : Int32 → Prop) (x1 : Int32) (A_ring : Nat → Int32) (A_buffer : Nat → Int32) (A_firstPlace : Int32) (A_forcedPlace : Int32) (A_endPlace : Int32) (A_wordsToFailure : Int32) (A_opened : Int32) : Prop :=
  vp_in (x1 &&& (65535 : Int32)) 65536 ∧ (post (A_ring (x1 &&& (65535 : Int32)).toNatClampNeg))
set_option maxHeartbeats 4000000 in
set_option maxRecDepth 100000 in
theorem met_X0_wordAt (l : Launch) (dC : Nat → ClassId) (dI : Nat → Nat → Nat) (qA qA_ring qA_buffer : Nat) (cA_ring cA_buffer : ClassId) (A_ring : Nat → Int32) (A_buffer : Nat → Int32) (A_firstPlace : Int32) (A_forcedPlace : Int32) (A_endPlace : Int32) (A_wordsToFailure : Int32) (A_opened : Int32) (x1 : Int32) (post : Int32 → Prop) (hw : wp_X0_wordAt post x1 A_ring A_buffer A_firstPlace A_forcedPlace A_endPlace A_wordsToFailure A_opened) :
    Met l yX0_wordAt wsX0_wordAt ({ frames := 0, cells := 0, slots := 0, locals := 0 } : Room) (pcR_A dC dI qA qA_ring qA_buffer cA_ring cA_buffer A_ring A_buffer A_firstPlace A_forcedPlace A_endPlace A_wordsToFailure A_opened [.ref qA, .int x1]) (vp_Si post) 0 0 (fun _ => False) := by
  refine Met.ofW (cc := cX0_wordAt) (maxL := 2) (ret := (some .int)) (by decide) rfl ?_
  intro p e s m args below meth c s₁ B hml hv
  obtain ⟨hav, hP, hK⟩ := hv
  have hx := B.exec
  have hb := B.bytes
  have hr := B.returns
  have hts := atoms_spec (ws := wsX0_wordAt) B.pre
  have hbg : ∀ w ∈ bigW, w.before args s = true := fun w h => hts w (List.mem_cons_of_mem _ h)
  have hown : s.vm.findClass RX0 = some m.cls := findClass_of_methodNamed B.named
  have hlocks := B.notSynchronized
  have hP : va_P (dC, dI) vwCl [(qA, .inr (0, [.ref qA_ring, .ref qA_buffer, .int A_firstPlace, .int A_forcedPlace, .int A_endPlace, .int A_wordsToFailure, .int A_opened])), (qA_ring, .inl (cA_ring, 65536, .inl A_ring)), (qA_buffer, .inl (cA_buffer, 200, .inl A_buffer))] s.heap := hP
  generalize hQQ : MQ below (vp_Si post) args s 0 0 (fun _ => False) = QQ
  have hl := lv_entry ([.ref qA, .int x1]) (n := 2) (Nat.le_of_ble_eq_true rfl)
  rw [show entryFrame m args 2 = entryFrame m ([.ref qA, .int x1] : List Value).toArray 2 by rw [hav], lg_entry_eq]
  generalize (lg_sl ([.ref qA, .int x1]) ++ List.replicate (2 - (lg_sl ([.ref qA, .int x1])).length) Slot.unset).toArray = ls at hl ⊢
  have hl : lv_has ls 2 [(0, .ref qA), (1, .int x1)] := hl
  unfold wp_X0_wordAt at hw
  refine lv_aload_n hx hb dX0_wordAt_0 rfl (lv_at hl 0 rfl) ?_
  refine va_get (D := (dC, dI)) (ci := 0) (v := .ref qA_ring) (C := RX0) (T := TX0) (N := 7) hx hb hbg in_X0 hown hK hP 0 rfl rfl 0 (by decide) (hbg _ kw_0) (fun _ h9 => h9) rfl dX0_wordAt_1 ?_
  refine lv_iload_n hx hb dX0_wordAt_4 rfl (lv_at hl 1 rfl) ?_
  refine lv_ldc (v := (65535 : Int32)) hx hb hown (hbg _ kw_1) dX0_wordAt_5 ?_
  refine lv_iand hx hb dX0_wordAt_7 ?_
  obtain ⟨h_1, hw⟩ := hw
  refine va_iald hx hb hK hP 1 0 rfl rfl h_1 dX0_wordAt_8 ?_
  subst hQQ
  exact W.iret (v := A_ring (x1 &&& (65535 : Int32)).toNatClampNeg) hx hb hr (fun t ht _ => ⟨A_ring (x1 &&& (65535 : Int32)).toNatClampNeg, rfl, hw, ht⟩) (by simp) dX0_wordAt_9
def wl_X0_lastRecordBefore_4 (post : Int32 → Prop) (A_ring : Nat → Int32) (A_buffer : Nat → Int32) (A_firstPlace : Int32) (A_forcedPlace : Int32) (A_endPlace : Int32) (A_wordsToFailure : Int32) (A_opened : Int32) (k4_1 : Int32) : Nat → Int32 → Int32 → Prop
  | 0, _, _ => False
  | n4 + 1, y4_2, y4_3 =>
    (((13107 : Int32) ≤ y4_3 → post (-1 : Int32)) ∧ (¬ (13107 : Int32) ≤ y4_3 → ((y4_2 ≤ A_firstPlace → post (-1 : Int32)) ∧ (¬ y4_2 ≤ A_firstPlace → wp_X0_wordAt (fun r_1 => (∀ v2_2 : Int32, v2_2 = (y4_2 - (if 0 ≤ r_1 then r_1 else 0 - r_1)) → ((r_1 ≤ (0 : Int32) → wl_X0_lastRecordBefore_4 post A_ring A_buffer A_firstPlace A_forcedPlace A_endPlace A_wordsToFailure A_opened k4_1 n4 v2_2 (y4_3 + (1 : Int32))) ∧ (¬ r_1 ≤ (0 : Int32) → post v2_2)))) (y4_2 - (1 : Int32)) A_ring A_buffer A_firstPlace A_forcedPlace A_endPlace A_wordsToFailure A_opened))))
def wp_X0_lastRecordBefore (post : Int32 → Prop) (x1 : Int32) (A_ring : Nat → Int32) (A_buffer : Nat → Int32) (A_firstPlace : Int32) (A_forcedPlace : Int32) (A_endPlace : Int32) (A_wordsToFailure : Int32) (A_opened : Int32) : Prop :=
  ∃ n, wl_X0_lastRecordBefore_4 post A_ring A_buffer A_firstPlace A_forcedPlace A_endPlace A_wordsToFailure A_opened x1 n x1 (0 : Int32)
set_option maxHeartbeats 4000000 in
set_option maxRecDepth 100000 in
theorem met_X0_lastRecordBefore (l : Launch) (dC : Nat → ClassId) (dI : Nat → Nat → Nat) (qA qA_ring qA_buffer : Nat) (cA_ring cA_buffer : ClassId) (A_ring : Nat → Int32) (A_buffer : Nat → Int32) (A_firstPlace : Int32) (A_forcedPlace : Int32) (A_endPlace : Int32) (A_wordsToFailure : Int32) (A_opened : Int32) (x1 : Int32) (post : Int32 → Prop) (hw : wp_X0_lastRecordBefore post x1 A_ring A_buffer A_firstPlace A_forcedPlace A_endPlace A_wordsToFailure A_opened) :
    Met l yX0_lastRecordBefore wsX0_lastRecordBefore ({ frames := 1, cells := 0, slots := 0, locals := 24 } : Room) (pcR_A dC dI qA qA_ring qA_buffer cA_ring cA_buffer A_ring A_buffer A_firstPlace A_forcedPlace A_endPlace A_wordsToFailure A_opened [.ref qA, .int x1]) (vp_Si post) 0 0 (fun _ => False) := by
  refine Met.ofW (cc := cX0_lastRecordBefore) (maxL := 5) (ret := (some .int)) (by decide) rfl ?_
  intro p e s m args below meth c s₁ B hml hv
  obtain ⟨hav, hP, hK⟩ := hv
  have hx := B.exec
  have hb := B.bytes
  have hr := B.returns
  have hts := atoms_spec (ws := wsX0_lastRecordBefore) B.pre
  have hbg : ∀ w ∈ bigW, w.before args s = true := fun w h => hts w (List.mem_cons_of_mem _ h)
  have hown : s.vm.findClass RX0 = some m.cls := findClass_of_methodNamed B.named
  have hlocks := B.notSynchronized
  have hP : va_P (dC, dI) vwCl [(qA, .inr (0, [.ref qA_ring, .ref qA_buffer, .int A_firstPlace, .int A_forcedPlace, .int A_endPlace, .int A_wordsToFailure, .int A_opened])), (qA_ring, .inl (cA_ring, 65536, .inl A_ring)), (qA_buffer, .inl (cA_buffer, 200, .inl A_buffer))] s.heap := hP
  generalize hQQ : MQ below (vp_Si post) args s 0 0 (fun _ => False) = QQ
  have hl := lv_entry ([.ref qA, .int x1]) (n := 5) (Nat.le_of_ble_eq_true rfl)
  rw [show entryFrame m args 5 = entryFrame m ([.ref qA, .int x1] : List Value).toArray 5 by rw [hav], lg_entry_eq]
  generalize (lg_sl ([.ref qA, .int x1]) ++ List.replicate (5 - (lg_sl ([.ref qA, .int x1])).length) Slot.unset).toArray = ls at hl ⊢
  have hl : lv_has ls 5 [(0, .ref qA), (1, .int x1)] := hl
  unfold wp_X0_lastRecordBefore at hw
  have hL4 : ∀ (n4 : Nat) (k4_1 : Int32) (y4_2 : Int32) (y4_3 : Int32), wl_X0_lastRecordBefore_4 post A_ring A_buffer A_firstPlace A_forcedPlace A_endPlace A_wordsToFailure A_opened k4_1 n4 y4_2 y4_3 → ∀ ls : Array Slot, lv_has ls 5 [(0, .ref qA), (1, .int k4_1), (2, .int y4_2), (3, .int y4_3)] → W p l e (headSpec wsX0_lastRecordBefore ({ frames := 1, cells := 0, slots := 0, locals := 24 } : Room)).room s m args below meth c s.heap [] 0 0 QQ (F0 m 4 ls []) := by
    intro n4
    induction n4 with
    | zero => intro k4_1 y4_2 y4_3 hw; exact False.elim hw
    | succ n4 ih4 =>
      intro k4_1 y4_2 y4_3 hw ls hl
      rw [wl_X0_lastRecordBefore_4] at hw
      refine lv_iload_n hx hb dX0_lastRecordBefore_4 rfl (lv_at hl 3 rfl) ?_
      refine lv_sipush (v := (13107 : Int32)) hx hb dX0_lastRecordBefore_5 (by decide) ?_
      refine lv_icmp_ge (tgt := 49) hx hb dX0_lastRecordBefore_8 (by decide) (fun c9 => ?_) (fun c9 => ?_)
      · have hw := hw.1 c9
        refine lv_iconst (v := (-1 : Int32)) hx hb dX0_lastRecordBefore_49 (by decide) ?_
        subst hQQ
        exact W.iret (v := (-1 : Int32)) hx hb hr (fun t ht _ => ⟨(-1 : Int32), rfl, hw, ht⟩) (by simp) dX0_lastRecordBefore_50
      · have hw := hw.2 c9
        refine lv_iload_n hx hb dX0_lastRecordBefore_11 rfl (lv_at hl 2 rfl) ?_
        refine lv_aload_n hx hb dX0_lastRecordBefore_12 rfl (lv_at hl 0 rfl) ?_
        refine va_get (D := (dC, dI)) (ci := 0) (v := .int A_firstPlace) (C := RX0) (T := TX0) (N := 7) hx hb hbg in_X0 hown hK hP 0 rfl rfl 2 (by decide) (hbg _ kw_2) (fun _ h9 => h9) rfl dX0_lastRecordBefore_13 ?_
        refine lv_icmp_le (tgt := 49) hx hb dX0_lastRecordBefore_16 (by decide) (fun c9 => ?_) (fun c9 => ?_)
        · have hw := hw.1 c9
          refine lv_iconst (v := (-1 : Int32)) hx hb dX0_lastRecordBefore_49 (by decide) ?_
          subst hQQ
          exact W.iret (v := (-1 : Int32)) hx hb hr (fun t ht _ => ⟨(-1 : Int32), rfl, hw, ht⟩) (by simp) dX0_lastRecordBefore_50
        · have hw := hw.2 c9
          refine lv_aload_n hx hb dX0_lastRecordBefore_19 rfl (lv_at hl 0 rfl) ?_
          refine lv_iload_n hx hb dX0_lastRecordBefore_20 rfl (lv_at hl 2 rfl) ?_
          refine lv_iconst (v := (1 : Int32)) hx hb dX0_lastRecordBefore_21 (by decide) ?_
          refine lv_isub hx hb dX0_lastRecordBefore_22 ?_
          refine vp_callSi (W.runV (As := [.int (y4_2 - (1 : Int32))]) (rest := []) ⟨hx, hb, hml, hown, hbg⟩ (met_X0_wordAt l dC dI qA qA_ring qA_buffer cA_ring cA_buffer A_ring A_buffer A_firstPlace A_forcedPlace A_endPlace A_wordsToFailure A_opened (y4_2 - (1 : Int32)) _ hw) (cwV 1 hbg g_RX0_97 rfl rfl rfl (by decide +kernel) ⟨Nat.le_of_ble_eq_true rfl, Nat.le_of_ble_eq_true rfl⟩) ⟨pcR_A_b _ _ _ _ _ _ _ _ _ _ _ _ _ _ _ , va_recv hK hP (ci := 0) (q0 := 0) rfl rfl, fun U hU hW => ⟨rfl, by rw [hU]; exact hP, va_K.moved hW.alike hK⟩⟩ rfl rfl hl.1 rfl (lv_room (Nat.le_of_ble_eq_true rfl)) dX0_lastRecordBefore_23 ⟨Nat.le_of_ble_eq_true rfl, Nat.le_of_ble_eq_true rfl⟩) (fun r_1 hw => ?_)
          try dsimp only at hw
          refine lv_istore (lv' := [(4, .int r_1), (0, .ref qA), (1, .int k4_1), (2, .int y4_2), (3, .int y4_3)]) hx hb dX0_lastRecordBefore_26 hl (by decide) rfl (fun ls hl => ?_)
          refine lv_iload_n hx hb dX0_lastRecordBefore_28 rfl (lv_at hl 3 rfl) ?_
          refine lv_iload hx hb dX0_lastRecordBefore_29 (lv_at hl 0 rfl) ?_
          refine va_mabs hx hb (hml.trans hl.1.symm) hown (hbg _ kw_8) (hbg _ kw_9) (hbg _ kw_10) (hbg _ kw_11) (Nat.le_of_ble_eq_true rfl) (Nat.le_of_ble_eq_true rfl) (Nat.le_of_ble_eq_true rfl) (Nat.le_of_ble_eq_true rfl) dX0_lastRecordBefore_31 ?_
          refine lv_isub hx hb dX0_lastRecordBefore_34 ?_
          refine lv_topi (fun v2_2 ev2_2 => ?_)
          have hw := hw v2_2 ev2_2
          refine lv_istore_n (lv' := [(2, .int v2_2), (4, .int r_1), (0, .ref qA), (1, .int k4_1), (3, .int y4_3)]) hx hb dX0_lastRecordBefore_35 rfl hl (by decide) rfl (fun ls hl => ?_)
          refine lv_iload hx hb dX0_lastRecordBefore_36 (lv_at hl 1 rfl) ?_
          refine lv_if_le (tgt := 43) hx hb dX0_lastRecordBefore_38 (by decide) (fun c9 => ?_) (fun c9 => ?_)
          · have hw := hw.1 c9
            refine lv_iinc (v := y4_3 + (1 : Int32)) (lv' := [(3, .int (y4_3 + (1 : Int32))), (2, .int v2_2), (4, .int r_1), (0, .ref qA), (1, .int k4_1)]) hx hb dX0_lastRecordBefore_43 hl (k := 4) rfl rfl (by decide) rfl (fun ls hl => ?_)
            refine lv_goto (tgt := 4) hx hb dX0_lastRecordBefore_46 (by decide) ?_
            exact ih4 k4_1 v2_2 (y4_3 + (1 : Int32)) hw ls (lv_sub hl [3, 4, 1, 0] rfl)
          · have hw := hw.2 c9
            refine lv_iload_n hx hb dX0_lastRecordBefore_41 rfl (lv_at hl 0 rfl) ?_
            subst hQQ
            exact W.iret (v := v2_2) hx hb hr (fun t ht _ => ⟨v2_2, rfl, hw, ht⟩) (by simp) dX0_lastRecordBefore_42
  refine lv_iload_n hx hb dX0_lastRecordBefore_0 rfl (lv_at hl 1 rfl) ?_
  refine lv_istore_n (lv' := [(2, .int x1), (0, .ref qA), (1, .int x1)]) hx hb dX0_lastRecordBefore_1 rfl hl (by decide) rfl (fun ls hl => ?_)
  refine lv_iconst (v := (0 : Int32)) hx hb dX0_lastRecordBefore_2 (by decide) ?_
  refine lv_istore_n (lv' := [(3, .int (0 : Int32)), (2, .int x1), (0, .ref qA), (1, .int x1)]) hx hb dX0_lastRecordBefore_3 rfl hl (by decide) rfl (fun ls hl => ?_)
  obtain ⟨n9, hw⟩ := hw
  exact hL4 n9 x1 x1 (0 : Int32) hw ls (lv_sub hl [2, 3, 1, 0] rfl)
def wp_X0_ownerAt (post : Int32 → Prop) (x1 : Int32) (A_ring : Nat → Int32) (A_buffer : Nat → Int32) (A_firstPlace : Int32) (A_forcedPlace : Int32) (A_endPlace : Int32) (A_wordsToFailure : Int32) (A_opened : Int32) : Prop :=
  wp_X0_wordAt (fun r_1 => post (r_1 / (16 : Int32))) (x1 + (1 : Int32)) A_ring A_buffer A_firstPlace A_forcedPlace A_endPlace A_wordsToFailure A_opened
set_option maxHeartbeats 4000000 in
set_option maxRecDepth 100000 in
theorem met_X0_ownerAt (l : Launch) (dC : Nat → ClassId) (dI : Nat → Nat → Nat) (qA qA_ring qA_buffer : Nat) (cA_ring cA_buffer : ClassId) (A_ring : Nat → Int32) (A_buffer : Nat → Int32) (A_firstPlace : Int32) (A_forcedPlace : Int32) (A_endPlace : Int32) (A_wordsToFailure : Int32) (A_opened : Int32) (x1 : Int32) (post : Int32 → Prop) (hw : wp_X0_ownerAt post x1 A_ring A_buffer A_firstPlace A_forcedPlace A_endPlace A_wordsToFailure A_opened) :
    Met l yX0_ownerAt wsX0_ownerAt ({ frames := 1, cells := 0, slots := 0, locals := 21 } : Room) (pcR_A dC dI qA qA_ring qA_buffer cA_ring cA_buffer A_ring A_buffer A_firstPlace A_forcedPlace A_endPlace A_wordsToFailure A_opened [.ref qA, .int x1]) (vp_Si post) 0 0 (fun _ => False) := by
  refine Met.ofW (cc := cX0_ownerAt) (maxL := 2) (ret := (some .int)) (by decide) rfl ?_
  intro p e s m args below meth c s₁ B hml hv
  obtain ⟨hav, hP, hK⟩ := hv
  have hx := B.exec
  have hb := B.bytes
  have hr := B.returns
  have hts := atoms_spec (ws := wsX0_ownerAt) B.pre
  have hbg : ∀ w ∈ bigW, w.before args s = true := fun w h => hts w (List.mem_cons_of_mem _ h)
  have hown : s.vm.findClass RX0 = some m.cls := findClass_of_methodNamed B.named
  have hlocks := B.notSynchronized
  have hP : va_P (dC, dI) vwCl [(qA, .inr (0, [.ref qA_ring, .ref qA_buffer, .int A_firstPlace, .int A_forcedPlace, .int A_endPlace, .int A_wordsToFailure, .int A_opened])), (qA_ring, .inl (cA_ring, 65536, .inl A_ring)), (qA_buffer, .inl (cA_buffer, 200, .inl A_buffer))] s.heap := hP
  generalize hQQ : MQ below (vp_Si post) args s 0 0 (fun _ => False) = QQ
  have hl := lv_entry ([.ref qA, .int x1]) (n := 2) (Nat.le_of_ble_eq_true rfl)
  rw [show entryFrame m args 2 = entryFrame m ([.ref qA, .int x1] : List Value).toArray 2 by rw [hav], lg_entry_eq]
  generalize (lg_sl ([.ref qA, .int x1]) ++ List.replicate (2 - (lg_sl ([.ref qA, .int x1])).length) Slot.unset).toArray = ls at hl ⊢
  have hl : lv_has ls 2 [(0, .ref qA), (1, .int x1)] := hl
  unfold wp_X0_ownerAt at hw
  refine lv_aload_n hx hb dX0_ownerAt_0 rfl (lv_at hl 0 rfl) ?_
  refine lv_iload_n hx hb dX0_ownerAt_1 rfl (lv_at hl 1 rfl) ?_
  refine lv_iconst (v := (1 : Int32)) hx hb dX0_ownerAt_2 (by decide) ?_
  refine lv_iadd hx hb dX0_ownerAt_3 ?_
  refine vp_callSi (W.runV (As := [.int (x1 + (1 : Int32))]) (rest := []) ⟨hx, hb, hml, hown, hbg⟩ (met_X0_wordAt l dC dI qA qA_ring qA_buffer cA_ring cA_buffer A_ring A_buffer A_firstPlace A_forcedPlace A_endPlace A_wordsToFailure A_opened (x1 + (1 : Int32)) _ hw) (cwV 1 hbg g_RX0_97 rfl rfl rfl (by decide +kernel) ⟨Nat.le_of_ble_eq_true rfl, Nat.le_of_ble_eq_true rfl⟩) ⟨pcR_A_b _ _ _ _ _ _ _ _ _ _ _ _ _ _ _ , va_recv hK hP (ci := 0) (q0 := 0) rfl rfl, fun U hU hW => ⟨rfl, by rw [hU]; exact hP, va_K.moved hW.alike hK⟩⟩ rfl rfl hl.1 rfl (lv_room (Nat.le_of_ble_eq_true rfl)) dX0_ownerAt_4 ⟨Nat.le_of_ble_eq_true rfl, Nat.le_of_ble_eq_true rfl⟩) (fun r_1 hw => ?_)
  try dsimp only at hw
  refine lv_bipush (v := (16 : Int32)) hx hb dX0_ownerAt_7 (by decide) ?_
  refine lv_idiv hx hb dX0_ownerAt_9 (by decide) ?_
  subst hQQ
  exact W.iret (v := r_1 / (16 : Int32)) hx hb hr (fun t ht _ => ⟨r_1 / (16 : Int32), rfl, hw, ht⟩) (by simp) dX0_ownerAt_10
def wl_X0_lastRecordOf_11 (post : Int32 → Prop) (A_ring : Nat → Int32) (A_buffer : Nat → Int32) (A_firstPlace : Int32) (A_forcedPlace : Int32) (A_endPlace : Int32) (A_wordsToFailure : Int32) (A_opened : Int32) (k11_1 : Int32) : Nat → Int32 → Int32 → Prop
  | 0, _, _ => False
  | n11 + 1, y11_2, y11_3 =>
    (((13107 : Int32) ≤ y11_3 → post (-1 : Int32)) ∧ (¬ (13107 : Int32) ≤ y11_3 → ((y11_2 = (-1 : Int32) → post (-1 : Int32)) ∧ (¬ y11_2 = (-1 : Int32) → wp_X0_ownerAt (fun r_1 => ((r_1 = k11_1 → post y11_2) ∧ (¬ r_1 = k11_1 → wp_X0_lastRecordBefore (fun r_2 => wl_X0_lastRecordOf_11 post A_ring A_buffer A_firstPlace A_forcedPlace A_endPlace A_wordsToFailure A_opened k11_1 n11 r_2 (y11_3 + (1 : Int32))) y11_2 A_ring A_buffer A_firstPlace A_forcedPlace A_endPlace A_wordsToFailure A_opened))) y11_2 A_ring A_buffer A_firstPlace A_forcedPlace A_endPlace A_wordsToFailure A_opened))))
def wp_X0_lastRecordOf (post : Int32 → Prop) (x1 : Int32) (A_ring : Nat → Int32) (A_buffer : Nat → Int32) (A_firstPlace : Int32) (A_forcedPlace : Int32) (A_endPlace : Int32) (A_wordsToFailure : Int32) (A_opened : Int32) : Prop :=
  wp_X0_lastRecordBefore (fun r_3 => ∃ n, wl_X0_lastRecordOf_11 post A_ring A_buffer A_firstPlace A_forcedPlace A_endPlace A_wordsToFailure A_opened x1 n r_3 (0 : Int32)) A_endPlace A_ring A_buffer A_firstPlace A_forcedPlace A_endPlace A_wordsToFailure A_opened
set_option maxHeartbeats 4000000 in
set_option maxRecDepth 100000 in
theorem met_X0_lastRecordOf (l : Launch) (dC : Nat → ClassId) (dI : Nat → Nat → Nat) (qA qA_ring qA_buffer : Nat) (cA_ring cA_buffer : ClassId) (A_ring : Nat → Int32) (A_buffer : Nat → Int32) (A_firstPlace : Int32) (A_forcedPlace : Int32) (A_endPlace : Int32) (A_wordsToFailure : Int32) (A_opened : Int32) (x1 : Int32) (post : Int32 → Prop) (hw : wp_X0_lastRecordOf post x1 A_ring A_buffer A_firstPlace A_forcedPlace A_endPlace A_wordsToFailure A_opened) :
    Met l yX0_lastRecordOf wsX0_lastRecordOf ({ frames := 2, cells := 0, slots := 0, locals := 48 } : Room) (pcR_A dC dI qA qA_ring qA_buffer cA_ring cA_buffer A_ring A_buffer A_firstPlace A_forcedPlace A_endPlace A_wordsToFailure A_opened [.ref qA, .int x1]) (vp_Si post) 0 0 (fun _ => False) := by
  refine Met.ofW (cc := cX0_lastRecordOf) (maxL := 4) (ret := (some .int)) (by decide) rfl ?_
  intro p e s m args below meth c s₁ B hml hv
  obtain ⟨hav, hP, hK⟩ := hv
  have hx := B.exec
  have hb := B.bytes
  have hr := B.returns
  have hts := atoms_spec (ws := wsX0_lastRecordOf) B.pre
  have hbg : ∀ w ∈ bigW, w.before args s = true := fun w h => hts w (List.mem_cons_of_mem _ h)
  have hown : s.vm.findClass RX0 = some m.cls := findClass_of_methodNamed B.named
  have hlocks := B.notSynchronized
  have hP : va_P (dC, dI) vwCl [(qA, .inr (0, [.ref qA_ring, .ref qA_buffer, .int A_firstPlace, .int A_forcedPlace, .int A_endPlace, .int A_wordsToFailure, .int A_opened])), (qA_ring, .inl (cA_ring, 65536, .inl A_ring)), (qA_buffer, .inl (cA_buffer, 200, .inl A_buffer))] s.heap := hP
  generalize hQQ : MQ below (vp_Si post) args s 0 0 (fun _ => False) = QQ
  have hl := lv_entry ([.ref qA, .int x1]) (n := 4) (Nat.le_of_ble_eq_true rfl)
  rw [show entryFrame m args 4 = entryFrame m ([.ref qA, .int x1] : List Value).toArray 4 by rw [hav], lg_entry_eq]
  generalize (lg_sl ([.ref qA, .int x1]) ++ List.replicate (4 - (lg_sl ([.ref qA, .int x1])).length) Slot.unset).toArray = ls at hl ⊢
  have hl : lv_has ls 4 [(0, .ref qA), (1, .int x1)] := hl
  unfold wp_X0_lastRecordOf at hw
  have hL11 : ∀ (n11 : Nat) (k11_1 : Int32) (y11_2 : Int32) (y11_3 : Int32), wl_X0_lastRecordOf_11 post A_ring A_buffer A_firstPlace A_forcedPlace A_endPlace A_wordsToFailure A_opened k11_1 n11 y11_2 y11_3 → ∀ ls : Array Slot, lv_has ls 4 [(0, .ref qA), (1, .int k11_1), (2, .int y11_2), (3, .int y11_3)] → W p l e (headSpec wsX0_lastRecordOf ({ frames := 2, cells := 0, slots := 0, locals := 48 } : Room)).room s m args below meth c s.heap [] 0 0 QQ (F0 m 11 ls []) := by
    intro n11
    induction n11 with
    | zero => intro k11_1 y11_2 y11_3 hw; exact False.elim hw
    | succ n11 ih11 =>
      intro k11_1 y11_2 y11_3 hw ls hl
      rw [wl_X0_lastRecordOf_11] at hw
      refine lv_iload_n hx hb dX0_lastRecordOf_11 rfl (lv_at hl 3 rfl) ?_
      refine lv_sipush (v := (13107 : Int32)) hx hb dX0_lastRecordOf_12 (by decide) ?_
      refine lv_icmp_ge (tgt := 46) hx hb dX0_lastRecordOf_15 (by decide) (fun c9 => ?_) (fun c9 => ?_)
      · have hw := hw.1 c9
        refine lv_iconst (v := (-1 : Int32)) hx hb dX0_lastRecordOf_46 (by decide) ?_
        subst hQQ
        exact W.iret (v := (-1 : Int32)) hx hb hr (fun t ht _ => ⟨(-1 : Int32), rfl, hw, ht⟩) (by simp) dX0_lastRecordOf_47
      · have hw := hw.2 c9
        refine lv_iload_n hx hb dX0_lastRecordOf_18 rfl (lv_at hl 2 rfl) ?_
        refine lv_iconst (v := (-1 : Int32)) hx hb dX0_lastRecordOf_19 (by decide) ?_
        refine lv_icmp_eq (tgt := 46) hx hb dX0_lastRecordOf_20 (by decide) (fun c9 => ?_) (fun c9 => ?_)
        · have hw := hw.1 c9
          refine lv_iconst (v := (-1 : Int32)) hx hb dX0_lastRecordOf_46 (by decide) ?_
          subst hQQ
          exact W.iret (v := (-1 : Int32)) hx hb hr (fun t ht _ => ⟨(-1 : Int32), rfl, hw, ht⟩) (by simp) dX0_lastRecordOf_47
        · have hw := hw.2 c9
          refine lv_aload_n hx hb dX0_lastRecordOf_23 rfl (lv_at hl 0 rfl) ?_
          refine lv_iload_n hx hb dX0_lastRecordOf_24 rfl (lv_at hl 2 rfl) ?_
          refine vp_callSi (W.runV (As := [.int y11_2]) (rest := []) ⟨hx, hb, hml, hown, hbg⟩ (met_X0_ownerAt l dC dI qA qA_ring qA_buffer cA_ring cA_buffer A_ring A_buffer A_firstPlace A_forcedPlace A_endPlace A_wordsToFailure A_opened y11_2 _ hw) (cwV 1 hbg g_RX0_94 rfl rfl rfl (by decide +kernel) ⟨Nat.le_of_ble_eq_true rfl, Nat.le_of_ble_eq_true rfl⟩) ⟨pcR_A_b _ _ _ _ _ _ _ _ _ _ _ _ _ _ _ , va_recv hK hP (ci := 0) (q0 := 0) rfl rfl, fun U hU hW => ⟨rfl, by rw [hU]; exact hP, va_K.moved hW.alike hK⟩⟩ rfl rfl hl.1 rfl (lv_room (Nat.le_of_ble_eq_true rfl)) dX0_lastRecordOf_25 ⟨Nat.le_of_ble_eq_true rfl, Nat.le_of_ble_eq_true rfl⟩) (fun r_1 hw => ?_)
          try dsimp only at hw
          refine lv_iload_n hx hb dX0_lastRecordOf_28 rfl (lv_at hl 1 rfl) ?_
          refine lv_icmp_ne (tgt := 34) hx hb dX0_lastRecordOf_29 (by decide) (fun c9 => ?_) (fun c9 => ?_)
          · have hw := hw.2 c9
            refine lv_aload_n hx hb dX0_lastRecordOf_34 rfl (lv_at hl 0 rfl) ?_
            refine lv_iload_n hx hb dX0_lastRecordOf_35 rfl (lv_at hl 2 rfl) ?_
            refine vp_callSi (W.runV (As := [.int y11_2]) (rest := []) ⟨hx, hb, hml, hown, hbg⟩ (met_X0_lastRecordBefore l dC dI qA qA_ring qA_buffer cA_ring cA_buffer A_ring A_buffer A_firstPlace A_forcedPlace A_endPlace A_wordsToFailure A_opened y11_2 _ hw) (cwV 1 hbg g_RX0_88 rfl rfl rfl (by decide +kernel) ⟨Nat.le_of_ble_eq_true rfl, Nat.le_of_ble_eq_true rfl⟩) ⟨pcR_A_b _ _ _ _ _ _ _ _ _ _ _ _ _ _ _ , va_recv hK hP (ci := 0) (q0 := 0) rfl rfl, fun U hU hW => ⟨rfl, by rw [hU]; exact hP, va_K.moved hW.alike hK⟩⟩ rfl rfl hl.1 rfl (lv_room (Nat.le_of_ble_eq_true rfl)) dX0_lastRecordOf_36 ⟨Nat.le_of_ble_eq_true rfl, Nat.le_of_ble_eq_true rfl⟩) (fun r_2 hw => ?_)
            try dsimp only at hw
            refine lv_istore_n (lv' := [(2, .int r_2), (0, .ref qA), (1, .int k11_1), (3, .int y11_3)]) hx hb dX0_lastRecordOf_39 rfl hl (by decide) rfl (fun ls hl => ?_)
            refine lv_iinc (v := y11_3 + (1 : Int32)) (lv' := [(3, .int (y11_3 + (1 : Int32))), (2, .int r_2), (0, .ref qA), (1, .int k11_1)]) hx hb dX0_lastRecordOf_40 hl (k := 3) rfl rfl (by decide) rfl (fun ls hl => ?_)
            refine lv_goto (tgt := 11) hx hb dX0_lastRecordOf_43 (by decide) ?_
            exact ih11 k11_1 r_2 (y11_3 + (1 : Int32)) hw ls (lv_sub hl [2, 3, 1, 0] rfl)
          · have hw := hw.1 c9
            refine lv_iload_n hx hb dX0_lastRecordOf_32 rfl (lv_at hl 2 rfl) ?_
            subst hQQ
            exact W.iret (v := y11_2) hx hb hr (fun t ht _ => ⟨y11_2, rfl, hw, ht⟩) (by simp) dX0_lastRecordOf_33
  refine lv_aload_n hx hb dX0_lastRecordOf_0 rfl (lv_at hl 0 rfl) ?_
  refine lv_aload_n hx hb dX0_lastRecordOf_1 rfl (lv_at hl 0 rfl) ?_
  refine va_get (D := (dC, dI)) (ci := 0) (v := .int A_endPlace) (C := RX0) (T := TX0) (N := 7) hx hb hbg in_X0 hown hK hP 0 rfl rfl 4 (by decide) (hbg _ kw_12) (fun _ h9 => h9) rfl dX0_lastRecordOf_2 ?_
  refine vp_callSi (W.runV (As := [.int A_endPlace]) (rest := []) ⟨hx, hb, hml, hown, hbg⟩ (met_X0_lastRecordBefore l dC dI qA qA_ring qA_buffer cA_ring cA_buffer A_ring A_buffer A_firstPlace A_forcedPlace A_endPlace A_wordsToFailure A_opened A_endPlace _ hw) (cwV 1 hbg g_RX0_88 rfl rfl rfl (by decide +kernel) ⟨Nat.le_of_ble_eq_true rfl, Nat.le_of_ble_eq_true rfl⟩) ⟨pcR_A_b _ _ _ _ _ _ _ _ _ _ _ _ _ _ _ , va_recv hK hP (ci := 0) (q0 := 0) rfl rfl, fun U hU hW => ⟨rfl, by rw [hU]; exact hP, va_K.moved hW.alike hK⟩⟩ rfl rfl hl.1 rfl (lv_room (Nat.le_of_ble_eq_true rfl)) dX0_lastRecordOf_5 ⟨Nat.le_of_ble_eq_true rfl, Nat.le_of_ble_eq_true rfl⟩) (fun r_3 hw => ?_)
  try dsimp only at hw
  refine lv_istore_n (lv' := [(2, .int r_3), (0, .ref qA), (1, .int x1)]) hx hb dX0_lastRecordOf_8 rfl hl (by decide) rfl (fun ls hl => ?_)
  refine lv_iconst (v := (0 : Int32)) hx hb dX0_lastRecordOf_9 (by decide) ?_
  refine lv_istore_n (lv' := [(3, .int (0 : Int32)), (2, .int r_3), (0, .ref qA), (1, .int x1)]) hx hb dX0_lastRecordOf_10 rfl hl (by decide) rfl (fun ls hl => ?_)
  obtain ⟨n9, hw⟩ := hw
  exact hL11 n9 x1 r_3 (0 : Int32) hw ls (lv_sub hl [2, 3, 1, 0] rfl)
def wp_X0_kindAt (post : Int32 → Prop) (x1 : Int32) (A_ring : Nat → Int32) (A_buffer : Nat → Int32) (A_firstPlace : Int32) (A_forcedPlace : Int32) (A_endPlace : Int32) (A_wordsToFailure : Int32) (A_opened : Int32) : Prop :=
  wp_X0_wordAt (fun r_1 => post (r_1 - r_1 / (16 : Int32) * (16 : Int32))) (x1 + (1 : Int32)) A_ring A_buffer A_firstPlace A_forcedPlace A_endPlace A_wordsToFailure A_opened
set_option maxHeartbeats 4000000 in
set_option maxRecDepth 100000 in
theorem met_X0_kindAt (l : Launch) (dC : Nat → ClassId) (dI : Nat → Nat → Nat) (qA qA_ring qA_buffer : Nat) (cA_ring cA_buffer : ClassId) (A_ring : Nat → Int32) (A_buffer : Nat → Int32) (A_firstPlace : Int32) (A_forcedPlace : Int32) (A_endPlace : Int32) (A_wordsToFailure : Int32) (A_opened : Int32) (x1 : Int32) (post : Int32 → Prop) (hw : wp_X0_kindAt post x1 A_ring A_buffer A_firstPlace A_forcedPlace A_endPlace A_wordsToFailure A_opened) :
    Met l yX0_kindAt wsX0_kindAt ({ frames := 1, cells := 0, slots := 0, locals := 21 } : Room) (pcR_A dC dI qA qA_ring qA_buffer cA_ring cA_buffer A_ring A_buffer A_firstPlace A_forcedPlace A_endPlace A_wordsToFailure A_opened [.ref qA, .int x1]) (vp_Si post) 0 0 (fun _ => False) := by
  refine Met.ofW (cc := cX0_kindAt) (maxL := 2) (ret := (some .int)) (by decide) rfl ?_
  intro p e s m args below meth c s₁ B hml hv
  obtain ⟨hav, hP, hK⟩ := hv
  have hx := B.exec
  have hb := B.bytes
  have hr := B.returns
  have hts := atoms_spec (ws := wsX0_kindAt) B.pre
  have hbg : ∀ w ∈ bigW, w.before args s = true := fun w h => hts w (List.mem_cons_of_mem _ h)
  have hown : s.vm.findClass RX0 = some m.cls := findClass_of_methodNamed B.named
  have hlocks := B.notSynchronized
  have hP : va_P (dC, dI) vwCl [(qA, .inr (0, [.ref qA_ring, .ref qA_buffer, .int A_firstPlace, .int A_forcedPlace, .int A_endPlace, .int A_wordsToFailure, .int A_opened])), (qA_ring, .inl (cA_ring, 65536, .inl A_ring)), (qA_buffer, .inl (cA_buffer, 200, .inl A_buffer))] s.heap := hP
  generalize hQQ : MQ below (vp_Si post) args s 0 0 (fun _ => False) = QQ
  have hl := lv_entry ([.ref qA, .int x1]) (n := 2) (Nat.le_of_ble_eq_true rfl)
  rw [show entryFrame m args 2 = entryFrame m ([.ref qA, .int x1] : List Value).toArray 2 by rw [hav], lg_entry_eq]
  generalize (lg_sl ([.ref qA, .int x1]) ++ List.replicate (2 - (lg_sl ([.ref qA, .int x1])).length) Slot.unset).toArray = ls at hl ⊢
  have hl : lv_has ls 2 [(0, .ref qA), (1, .int x1)] := hl
  unfold wp_X0_kindAt at hw
  refine lv_aload_n hx hb dX0_kindAt_0 rfl (lv_at hl 0 rfl) ?_
  refine lv_iload_n hx hb dX0_kindAt_1 rfl (lv_at hl 1 rfl) ?_
  refine lv_iconst (v := (1 : Int32)) hx hb dX0_kindAt_2 (by decide) ?_
  refine lv_iadd hx hb dX0_kindAt_3 ?_
  refine vp_callSi (W.runV (As := [.int (x1 + (1 : Int32))]) (rest := []) ⟨hx, hb, hml, hown, hbg⟩ (met_X0_wordAt l dC dI qA qA_ring qA_buffer cA_ring cA_buffer A_ring A_buffer A_firstPlace A_forcedPlace A_endPlace A_wordsToFailure A_opened (x1 + (1 : Int32)) _ hw) (cwV 1 hbg g_RX0_97 rfl rfl rfl (by decide +kernel) ⟨Nat.le_of_ble_eq_true rfl, Nat.le_of_ble_eq_true rfl⟩) ⟨pcR_A_b _ _ _ _ _ _ _ _ _ _ _ _ _ _ _ , va_recv hK hP (ci := 0) (q0 := 0) rfl rfl, fun U hU hW => ⟨rfl, by rw [hU]; exact hP, va_K.moved hW.alike hK⟩⟩ rfl rfl hl.1 rfl (lv_room (Nat.le_of_ble_eq_true rfl)) dX0_kindAt_4 ⟨Nat.le_of_ble_eq_true rfl, Nat.le_of_ble_eq_true rfl⟩) (fun r_1 hw => ?_)
  try dsimp only at hw
  refine lv_bipush (v := (16 : Int32)) hx hb dX0_kindAt_7 (by decide) ?_
  refine lv_irem hx hb dX0_kindAt_9 (by decide) ?_
  subst hQQ
  exact W.iret (v := r_1 - r_1 / (16 : Int32) * (16 : Int32)) hx hb hr (fun t ht _ => ⟨r_1 - r_1 / (16 : Int32) * (16 : Int32), rfl, hw, ht⟩) (by simp) dX0_kindAt_10
def wp_X0_isAskedFor (post : Int32 → Prop) (x1 : Int32) (x2 : Int32) (x3 : Int32) (A_ring : Nat → Int32) (A_buffer : Nat → Int32) (A_firstPlace : Int32) (A_forcedPlace : Int32) (A_endPlace : Int32) (A_wordsToFailure : Int32) (A_opened : Int32) : Prop :=
  wp_X0_ownerAt (fun r_1 => ((r_1 = x2 → wp_X0_kindAt (fun r_2 => (((((x3.toUInt32 >>> (r_2.toUInt32 &&& Int32.toUInt32 31)).toInt32) &&& (1 : Int32)) = (1 : Int32) → post (1 : Int32)) ∧ (¬ (((x3.toUInt32 >>> (r_2.toUInt32 &&& Int32.toUInt32 31)).toInt32) &&& (1 : Int32)) = (1 : Int32) → post (0 : Int32)))) x1 A_ring A_buffer A_firstPlace A_forcedPlace A_endPlace A_wordsToFailure A_opened) ∧ (¬ r_1 = x2 → post (0 : Int32)))) x1 A_ring A_buffer A_firstPlace A_forcedPlace A_endPlace A_wordsToFailure A_opened
set_option maxHeartbeats 4000000 in
set_option maxRecDepth 100000 in
theorem met_X0_isAskedFor (l : Launch) (dC : Nat → ClassId) (dI : Nat → Nat → Nat) (qA qA_ring qA_buffer : Nat) (cA_ring cA_buffer : ClassId) (A_ring : Nat → Int32) (A_buffer : Nat → Int32) (A_firstPlace : Int32) (A_forcedPlace : Int32) (A_endPlace : Int32) (A_wordsToFailure : Int32) (A_opened : Int32) (x1 : Int32) (x2 : Int32) (x3 : Int32) (post : Int32 → Prop) (hw : wp_X0_isAskedFor post x1 x2 x3 A_ring A_buffer A_firstPlace A_forcedPlace A_endPlace A_wordsToFailure A_opened) :
    Met l yX0_isAskedFor wsX0_isAskedFor ({ frames := 2, cells := 0, slots := 0, locals := 42 } : Room) (pcR_A dC dI qA qA_ring qA_buffer cA_ring cA_buffer A_ring A_buffer A_firstPlace A_forcedPlace A_endPlace A_wordsToFailure A_opened [.ref qA, .int x1, .int x2, .int x3]) (vp_Si post) 0 0 (fun _ => False) := by
  refine Met.ofW (cc := cX0_isAskedFor) (maxL := 4) (ret := (some .boolean)) (by decide) rfl ?_
  intro p e s m args below meth c s₁ B hml hv
  obtain ⟨hav, hP, hK⟩ := hv
  have hx := B.exec
  have hb := B.bytes
  have hr := B.returns
  have hts := atoms_spec (ws := wsX0_isAskedFor) B.pre
  have hbg : ∀ w ∈ bigW, w.before args s = true := fun w h => hts w (List.mem_cons_of_mem _ h)
  have hown : s.vm.findClass RX0 = some m.cls := findClass_of_methodNamed B.named
  have hlocks := B.notSynchronized
  have hP : va_P (dC, dI) vwCl [(qA, .inr (0, [.ref qA_ring, .ref qA_buffer, .int A_firstPlace, .int A_forcedPlace, .int A_endPlace, .int A_wordsToFailure, .int A_opened])), (qA_ring, .inl (cA_ring, 65536, .inl A_ring)), (qA_buffer, .inl (cA_buffer, 200, .inl A_buffer))] s.heap := hP
  generalize hQQ : MQ below (vp_Si post) args s 0 0 (fun _ => False) = QQ
  have hl := lv_entry ([.ref qA, .int x1, .int x2, .int x3]) (n := 4) (Nat.le_of_ble_eq_true rfl)
  rw [show entryFrame m args 4 = entryFrame m ([.ref qA, .int x1, .int x2, .int x3] : List Value).toArray 4 by rw [hav], lg_entry_eq]
  generalize (lg_sl ([.ref qA, .int x1, .int x2, .int x3]) ++ List.replicate (4 - (lg_sl ([.ref qA, .int x1, .int x2, .int x3])).length) Slot.unset).toArray = ls at hl ⊢
  have hl : lv_has ls 4 [(0, .ref qA), (1, .int x1), (2, .int x2), (3, .int x3)] := hl
  unfold wp_X0_isAskedFor at hw
  refine lv_aload_n hx hb dX0_isAskedFor_0 rfl (lv_at hl 0 rfl) ?_
  refine lv_iload_n hx hb dX0_isAskedFor_1 rfl (lv_at hl 1 rfl) ?_
  refine vp_callSi (W.runV (As := [.int x1]) (rest := []) ⟨hx, hb, hml, hown, hbg⟩ (met_X0_ownerAt l dC dI qA qA_ring qA_buffer cA_ring cA_buffer A_ring A_buffer A_firstPlace A_forcedPlace A_endPlace A_wordsToFailure A_opened x1 _ hw) (cwV 1 hbg g_RX0_94 rfl rfl rfl (by decide +kernel) ⟨Nat.le_of_ble_eq_true rfl, Nat.le_of_ble_eq_true rfl⟩) ⟨pcR_A_b _ _ _ _ _ _ _ _ _ _ _ _ _ _ _ , va_recv hK hP (ci := 0) (q0 := 0) rfl rfl, fun U hU hW => ⟨rfl, by rw [hU]; exact hP, va_K.moved hW.alike hK⟩⟩ rfl rfl hl.1 rfl (lv_room (Nat.le_of_ble_eq_true rfl)) dX0_isAskedFor_2 ⟨Nat.le_of_ble_eq_true rfl, Nat.le_of_ble_eq_true rfl⟩) (fun r_1 hw => ?_)
  try dsimp only at hw
  refine lv_iload_n hx hb dX0_isAskedFor_5 rfl (lv_at hl 2 rfl) ?_
  refine lv_icmp_ne (tgt := 26) hx hb dX0_isAskedFor_6 (by decide) (fun c9 => ?_) (fun c9 => ?_)
  · have hw := hw.2 c9
    refine lv_iconst (v := (0 : Int32)) hx hb dX0_isAskedFor_26 (by decide) ?_
    subst hQQ
    exact W.zret (v := (0 : Int32)) hx hb hr rfl (fun t ht _ => ⟨(0 : Int32), rfl, hw, ht⟩) (by simp) dX0_isAskedFor_27
  · have hw := hw.1 c9
    refine lv_iload_n hx hb dX0_isAskedFor_9 rfl (lv_at hl 3 rfl) ?_
    refine lv_aload_n hx hb dX0_isAskedFor_10 rfl (lv_at hl 0 rfl) ?_
    refine lv_iload_n hx hb dX0_isAskedFor_11 rfl (lv_at hl 1 rfl) ?_
    refine vp_callSi (W.runV (As := [.int x1]) (rest := [.int x3]) ⟨hx, hb, hml, hown, hbg⟩ (met_X0_kindAt l dC dI qA qA_ring qA_buffer cA_ring cA_buffer A_ring A_buffer A_firstPlace A_forcedPlace A_endPlace A_wordsToFailure A_opened x1 _ hw) (cwV 1 hbg g_RX0_91 rfl rfl rfl (by decide +kernel) ⟨Nat.le_of_ble_eq_true rfl, Nat.le_of_ble_eq_true rfl⟩) ⟨pcR_A_b _ _ _ _ _ _ _ _ _ _ _ _ _ _ _ , va_recv hK hP (ci := 0) (q0 := 0) rfl rfl, fun U hU hW => ⟨rfl, by rw [hU]; exact hP, va_K.moved hW.alike hK⟩⟩ rfl rfl hl.1 rfl (lv_room (Nat.le_of_ble_eq_true rfl)) dX0_isAskedFor_12 ⟨Nat.le_of_ble_eq_true rfl, Nat.le_of_ble_eq_true rfl⟩) (fun r_2 hw => ?_)
    try dsimp only at hw
    refine lv_iushr (v := (x3.toUInt32 >>> (r_2.toUInt32 &&& Int32.toUInt32 31)).toInt32) hx hb dX0_isAskedFor_15 rfl ?_
    refine lv_iconst (v := (1 : Int32)) hx hb dX0_isAskedFor_16 (by decide) ?_
    refine lv_iand hx hb dX0_isAskedFor_17 ?_
    refine lv_iconst (v := (1 : Int32)) hx hb dX0_isAskedFor_18 (by decide) ?_
    refine lv_icmp_ne (tgt := 26) hx hb dX0_isAskedFor_19 (by decide) (fun c9 => ?_) (fun c9 => ?_)
    · have hw := hw.2 c9
      refine lv_iconst (v := (0 : Int32)) hx hb dX0_isAskedFor_26 (by decide) ?_
      subst hQQ
      exact W.zret (v := (0 : Int32)) hx hb hr rfl (fun t ht _ => ⟨(0 : Int32), rfl, hw, ht⟩) (by simp) dX0_isAskedFor_27
    · have hw := hw.1 c9
      refine lv_iconst (v := (1 : Int32)) hx hb dX0_isAskedFor_22 (by decide) ?_
      refine lv_goto (tgt := 27) hx hb dX0_isAskedFor_23 (by decide) ?_
      subst hQQ
      exact W.zret (v := (1 : Int32)) hx hb hr rfl (fun t ht _ => ⟨(1 : Int32), rfl, hw, ht⟩) (by simp) dX0_isAskedFor_27
def wp_X0_stopBehind (post : Int32 → Prop) (x1 : Int32) (A_ring : Nat → Int32) (A_buffer : Nat → Int32) (A_firstPlace : Int32) (A_forcedPlace : Int32) (A_endPlace : Int32) (A_wordsToFailure : Int32) (A_opened : Int32) : Prop :=
  wp_X0_wordAt (fun r_1 => ((r_1 = (-1 : Int32) → wp_X0_wordAt (fun r_2 => post r_2) (x1 + (2 : Int32)) A_ring A_buffer A_firstPlace A_forcedPlace A_endPlace A_wordsToFailure A_opened) ∧ (¬ r_1 = (-1 : Int32) → post r_1))) (x1 + (3 : Int32)) A_ring A_buffer A_firstPlace A_forcedPlace A_endPlace A_wordsToFailure A_opened
set_option maxHeartbeats 4000000 in
set_option maxRecDepth 100000 in
theorem met_X0_stopBehind (l : Launch) (dC : Nat → ClassId) (dI : Nat → Nat → Nat) (qA qA_ring qA_buffer : Nat) (cA_ring cA_buffer : ClassId) (A_ring : Nat → Int32) (A_buffer : Nat → Int32) (A_firstPlace : Int32) (A_forcedPlace : Int32) (A_endPlace : Int32) (A_wordsToFailure : Int32) (A_opened : Int32) (x1 : Int32) (post : Int32 → Prop) (hw : wp_X0_stopBehind post x1 A_ring A_buffer A_firstPlace A_forcedPlace A_endPlace A_wordsToFailure A_opened) :
    Met l yX0_stopBehind wsX0_stopBehind ({ frames := 1, cells := 0, slots := 0, locals := 21 } : Room) (pcR_A dC dI qA qA_ring qA_buffer cA_ring cA_buffer A_ring A_buffer A_firstPlace A_forcedPlace A_endPlace A_wordsToFailure A_opened [.ref qA, .int x1]) (vp_Si post) 0 0 (fun _ => False) := by
  refine Met.ofW (cc := cX0_stopBehind) (maxL := 3) (ret := (some .int)) (by decide) rfl ?_
  intro p e s m args below meth c s₁ B hml hv
  obtain ⟨hav, hP, hK⟩ := hv
  have hx := B.exec
  have hb := B.bytes
  have hr := B.returns
  have hts := atoms_spec (ws := wsX0_stopBehind) B.pre
  have hbg : ∀ w ∈ bigW, w.before args s = true := fun w h => hts w (List.mem_cons_of_mem _ h)
  have hown : s.vm.findClass RX0 = some m.cls := findClass_of_methodNamed B.named
  have hlocks := B.notSynchronized
  have hP : va_P (dC, dI) vwCl [(qA, .inr (0, [.ref qA_ring, .ref qA_buffer, .int A_firstPlace, .int A_forcedPlace, .int A_endPlace, .int A_wordsToFailure, .int A_opened])), (qA_ring, .inl (cA_ring, 65536, .inl A_ring)), (qA_buffer, .inl (cA_buffer, 200, .inl A_buffer))] s.heap := hP
  generalize hQQ : MQ below (vp_Si post) args s 0 0 (fun _ => False) = QQ
  have hl := lv_entry ([.ref qA, .int x1]) (n := 3) (Nat.le_of_ble_eq_true rfl)
  rw [show entryFrame m args 3 = entryFrame m ([.ref qA, .int x1] : List Value).toArray 3 by rw [hav], lg_entry_eq]
  generalize (lg_sl ([.ref qA, .int x1]) ++ List.replicate (3 - (lg_sl ([.ref qA, .int x1])).length) Slot.unset).toArray = ls at hl ⊢
  have hl : lv_has ls 3 [(0, .ref qA), (1, .int x1)] := hl
  unfold wp_X0_stopBehind at hw
  refine lv_aload_n hx hb dX0_stopBehind_0 rfl (lv_at hl 0 rfl) ?_
  refine lv_iload_n hx hb dX0_stopBehind_1 rfl (lv_at hl 1 rfl) ?_
  refine lv_iconst (v := (3 : Int32)) hx hb dX0_stopBehind_2 (by decide) ?_
  refine lv_iadd hx hb dX0_stopBehind_3 ?_
  refine vp_callSi (W.runV (As := [.int (x1 + (3 : Int32))]) (rest := []) ⟨hx, hb, hml, hown, hbg⟩ (met_X0_wordAt l dC dI qA qA_ring qA_buffer cA_ring cA_buffer A_ring A_buffer A_firstPlace A_forcedPlace A_endPlace A_wordsToFailure A_opened (x1 + (3 : Int32)) _ hw) (cwV 1 hbg g_RX0_97 rfl rfl rfl (by decide +kernel) ⟨Nat.le_of_ble_eq_true rfl, Nat.le_of_ble_eq_true rfl⟩) ⟨pcR_A_b _ _ _ _ _ _ _ _ _ _ _ _ _ _ _ , va_recv hK hP (ci := 0) (q0 := 0) rfl rfl, fun U hU hW => ⟨rfl, by rw [hU]; exact hP, va_K.moved hW.alike hK⟩⟩ rfl rfl hl.1 rfl (lv_room (Nat.le_of_ble_eq_true rfl)) dX0_stopBehind_4 ⟨Nat.le_of_ble_eq_true rfl, Nat.le_of_ble_eq_true rfl⟩) (fun r_1 hw => ?_)
  try dsimp only at hw
  refine lv_istore_n (lv' := [(2, .int r_1), (0, .ref qA), (1, .int x1)]) hx hb dX0_stopBehind_7 rfl hl (by decide) rfl (fun ls hl => ?_)
  refine lv_iload_n hx hb dX0_stopBehind_8 rfl (lv_at hl 0 rfl) ?_
  refine lv_iconst (v := (-1 : Int32)) hx hb dX0_stopBehind_9 (by decide) ?_
  refine lv_icmp_eq (tgt := 17) hx hb dX0_stopBehind_10 (by decide) (fun c9 => ?_) (fun c9 => ?_)
  · have hw := hw.1 c9
    refine lv_aload_n hx hb dX0_stopBehind_17 rfl (lv_at hl 1 rfl) ?_
    refine lv_iload_n hx hb dX0_stopBehind_18 rfl (lv_at hl 2 rfl) ?_
    refine lv_iconst (v := (2 : Int32)) hx hb dX0_stopBehind_19 (by decide) ?_
    refine lv_iadd hx hb dX0_stopBehind_20 ?_
    refine vp_callSi (W.runV (As := [.int (x1 + (2 : Int32))]) (rest := []) ⟨hx, hb, hml, hown, hbg⟩ (met_X0_wordAt l dC dI qA qA_ring qA_buffer cA_ring cA_buffer A_ring A_buffer A_firstPlace A_forcedPlace A_endPlace A_wordsToFailure A_opened (x1 + (2 : Int32)) _ hw) (cwV 1 hbg g_RX0_97 rfl rfl rfl (by decide +kernel) ⟨Nat.le_of_ble_eq_true rfl, Nat.le_of_ble_eq_true rfl⟩) ⟨pcR_A_b _ _ _ _ _ _ _ _ _ _ _ _ _ _ _ , va_recv hK hP (ci := 0) (q0 := 0) rfl rfl, fun U hU hW => ⟨rfl, by rw [hU]; exact hP, va_K.moved hW.alike hK⟩⟩ rfl rfl hl.1 rfl (lv_room (Nat.le_of_ble_eq_true rfl)) dX0_stopBehind_21 ⟨Nat.le_of_ble_eq_true rfl, Nat.le_of_ble_eq_true rfl⟩) (fun r_2 hw => ?_)
    try dsimp only at hw
    subst hQQ
    exact W.iret (v := r_2) hx hb hr (fun t ht _ => ⟨r_2, rfl, hw, ht⟩) (by simp) dX0_stopBehind_24
  · have hw := hw.2 c9
    refine lv_iload_n hx hb dX0_stopBehind_13 rfl (lv_at hl 0 rfl) ?_
    refine lv_goto (tgt := 24) hx hb dX0_stopBehind_14 (by decide) ?_
    subst hQQ
    exact W.iret (v := r_1) hx hb hr (fun t ht _ => ⟨r_1, rfl, hw, ht⟩) (by simp) dX0_stopBehind_24
def wl_X0_kthOnTheWay_17 (post : Int32 → Prop) (A_ring : Nat → Int32) (A_buffer : Nat → Int32) (A_firstPlace : Int32) (A_forcedPlace : Int32) (A_endPlace : Int32) (A_wordsToFailure : Int32) (A_opened : Int32) (k17_1 : Int32) (k17_2 : Int32) (k17_3 : Int32) : Nat → Int32 → Int32 → Int32 → Int32 → Prop
  | 0, _, _, _, _ => False
  | n17 + 1, y17_4, y17_5, y17_6, y17_7 =>
    (((13107 : Int32) ≤ y17_7 → post (-1 : Int32)) ∧ (¬ (13107 : Int32) ≤ y17_7 → ((y17_5 = (-1 : Int32) → post (-1 : Int32)) ∧ (¬ y17_5 = (-1 : Int32) → ((y17_5 < y17_4 → post (-1 : Int32)) ∧ (¬ y17_5 < y17_4 → ((y17_5 = y17_4 → wp_X0_isAskedFor (fun r_2 => ((r_2 = (0 : Int32) → wp_X0_stopBehind (fun r_3 => ((r_3 = (-1 : Int32) → wl_X0_kthOnTheWay_17 post A_ring A_buffer A_firstPlace A_forcedPlace A_endPlace A_wordsToFailure A_opened k17_1 k17_2 k17_3 n17 r_3 (-1 : Int32) y17_6 (y17_7 + (1 : Int32))) ∧ (¬ r_3 = (-1 : Int32) → wp_X0_lastRecordBefore (fun r_4 => wl_X0_kthOnTheWay_17 post A_ring A_buffer A_firstPlace A_forcedPlace A_endPlace A_wordsToFailure A_opened k17_1 k17_2 k17_3 n17 r_3 r_4 y17_6 (y17_7 + (1 : Int32))) y17_5 A_ring A_buffer A_firstPlace A_forcedPlace A_endPlace A_wordsToFailure A_opened))) y17_5 A_ring A_buffer A_firstPlace A_forcedPlace A_endPlace A_wordsToFailure A_opened) ∧ (¬ r_2 = (0 : Int32) → ((y17_6 = (0 : Int32) → post y17_5) ∧ (¬ y17_6 = (0 : Int32) → wp_X0_stopBehind (fun r_5 => ((r_5 = (-1 : Int32) → wl_X0_kthOnTheWay_17 post A_ring A_buffer A_firstPlace A_forcedPlace A_endPlace A_wordsToFailure A_opened k17_1 k17_2 k17_3 n17 r_5 (-1 : Int32) (y17_6 + (-1 : Int32)) (y17_7 + (1 : Int32))) ∧ (¬ r_5 = (-1 : Int32) → wp_X0_lastRecordBefore (fun r_6 => wl_X0_kthOnTheWay_17 post A_ring A_buffer A_firstPlace A_forcedPlace A_endPlace A_wordsToFailure A_opened k17_1 k17_2 k17_3 n17 r_5 r_6 (y17_6 + (-1 : Int32)) (y17_7 + (1 : Int32))) y17_5 A_ring A_buffer A_firstPlace A_forcedPlace A_endPlace A_wordsToFailure A_opened))) y17_5 A_ring A_buffer A_firstPlace A_forcedPlace A_endPlace A_wordsToFailure A_opened))))) y17_5 k17_1 k17_2 A_ring A_buffer A_firstPlace A_forcedPlace A_endPlace A_wordsToFailure A_opened) ∧ (¬ y17_5 = y17_4 → ((y17_4 = (-1 : Int32) → wl_X0_kthOnTheWay_17 post A_ring A_buffer A_firstPlace A_forcedPlace A_endPlace A_wordsToFailure A_opened k17_1 k17_2 k17_3 n17 y17_4 (-1 : Int32) y17_6 (y17_7 + (1 : Int32))) ∧ (¬ y17_4 = (-1 : Int32) → wp_X0_lastRecordBefore (fun r_1 => wl_X0_kthOnTheWay_17 post A_ring A_buffer A_firstPlace A_forcedPlace A_endPlace A_wordsToFailure A_opened k17_1 k17_2 k17_3 n17 y17_4 r_1 y17_6 (y17_7 + (1 : Int32))) y17_5 A_ring A_buffer A_firstPlace A_forcedPlace A_endPlace A_wordsToFailure A_opened))))))))))
def wp_X0_kthOnTheWay (post : Int32 → Prop) (x1 : Int32) (x2 : Int32) (x3 : Int32) (A_ring : Nat → Int32) (A_buffer : Nat → Int32) (A_firstPlace : Int32) (A_forcedPlace : Int32) (A_endPlace : Int32) (A_wordsToFailure : Int32) (A_opened : Int32) : Prop :=
  wp_X0_lastRecordOf (fun r_7 => ∃ n, wl_X0_kthOnTheWay_17 post A_ring A_buffer A_firstPlace A_forcedPlace A_endPlace A_wordsToFailure A_opened x1 x2 x3 n r_7 r_7 x3 (0 : Int32)) x1 A_ring A_buffer A_firstPlace A_forcedPlace A_endPlace A_wordsToFailure A_opened
set_option maxHeartbeats 4000000 in
set_option maxRecDepth 100000 in
theorem met_X0_kthOnTheWay (l : Launch) (dC : Nat → ClassId) (dI : Nat → Nat → Nat) (qA qA_ring qA_buffer : Nat) (cA_ring cA_buffer : ClassId) (A_ring : Nat → Int32) (A_buffer : Nat → Int32) (A_firstPlace : Int32) (A_forcedPlace : Int32) (A_endPlace : Int32) (A_wordsToFailure : Int32) (A_opened : Int32) (x1 : Int32) (x2 : Int32) (x3 : Int32) (post : Int32 → Prop) (hw : wp_X0_kthOnTheWay post x1 x2 x3 A_ring A_buffer A_firstPlace A_forcedPlace A_endPlace A_wordsToFailure A_opened) :
    Met l yX0_kthOnTheWay wsX0_kthOnTheWay ({ frames := 3, cells := 0, slots := 0, locals := 71 } : Room) (pcR_A dC dI qA qA_ring qA_buffer cA_ring cA_buffer A_ring A_buffer A_firstPlace A_forcedPlace A_endPlace A_wordsToFailure A_opened [.ref qA, .int x1, .int x2, .int x3]) (vp_Si post) 0 0 (fun _ => False) := by
  refine Met.ofW (cc := cX0_kthOnTheWay) (maxL := 8) (ret := (some .int)) (by decide) rfl ?_
  intro p e s m args below meth c s₁ B hml hv
  obtain ⟨hav, hP, hK⟩ := hv
  have hx := B.exec
  have hb := B.bytes
  have hr := B.returns
  have hts := atoms_spec (ws := wsX0_kthOnTheWay) B.pre
  have hbg : ∀ w ∈ bigW, w.before args s = true := fun w h => hts w (List.mem_cons_of_mem _ h)
  have hown : s.vm.findClass RX0 = some m.cls := findClass_of_methodNamed B.named
  have hlocks := B.notSynchronized
  have hP : va_P (dC, dI) vwCl [(qA, .inr (0, [.ref qA_ring, .ref qA_buffer, .int A_firstPlace, .int A_forcedPlace, .int A_endPlace, .int A_wordsToFailure, .int A_opened])), (qA_ring, .inl (cA_ring, 65536, .inl A_ring)), (qA_buffer, .inl (cA_buffer, 200, .inl A_buffer))] s.heap := hP
  generalize hQQ : MQ below (vp_Si post) args s 0 0 (fun _ => False) = QQ
  have hl := lv_entry ([.ref qA, .int x1, .int x2, .int x3]) (n := 8) (Nat.le_of_ble_eq_true rfl)
  rw [show entryFrame m args 8 = entryFrame m ([.ref qA, .int x1, .int x2, .int x3] : List Value).toArray 8 by rw [hav], lg_entry_eq]
  generalize (lg_sl ([.ref qA, .int x1, .int x2, .int x3]) ++ List.replicate (8 - (lg_sl ([.ref qA, .int x1, .int x2, .int x3])).length) Slot.unset).toArray = ls at hl ⊢
  have hl : lv_has ls 8 [(0, .ref qA), (1, .int x1), (2, .int x2), (3, .int x3)] := hl
  unfold wp_X0_kthOnTheWay at hw
  have hL17 : ∀ (n17 : Nat) (k17_1 : Int32) (k17_2 : Int32) (k17_3 : Int32) (y17_4 : Int32) (y17_5 : Int32) (y17_6 : Int32) (y17_7 : Int32), wl_X0_kthOnTheWay_17 post A_ring A_buffer A_firstPlace A_forcedPlace A_endPlace A_wordsToFailure A_opened k17_1 k17_2 k17_3 n17 y17_4 y17_5 y17_6 y17_7 → ∀ ls : Array Slot, lv_has ls 8 [(0, .ref qA), (1, .int k17_1), (2, .int k17_2), (3, .int k17_3), (4, .int y17_4), (5, .int y17_5), (6, .int y17_6), (7, .int y17_7)] → W p l e (headSpec wsX0_kthOnTheWay ({ frames := 3, cells := 0, slots := 0, locals := 71 } : Room)).room s m args below meth c s.heap [] 0 0 QQ (F0 m 17 ls []) := by
    intro n17
    induction n17 with
    | zero => intro k17_1 k17_2 k17_3 y17_4 y17_5 y17_6 y17_7 hw; exact False.elim hw
    | succ n17 ih17 =>
      intro k17_1 k17_2 k17_3 y17_4 y17_5 y17_6 y17_7 hw ls hl
      rw [wl_X0_kthOnTheWay_17] at hw
      refine lv_iload hx hb dX0_kthOnTheWay_17 (lv_at hl 7 rfl) ?_
      refine lv_sipush (v := (13107 : Int32)) hx hb dX0_kthOnTheWay_19 (by decide) ?_
      refine lv_icmp_ge (tgt := 99) hx hb dX0_kthOnTheWay_22 (by decide) (fun c9 => ?_) (fun c9 => ?_)
      · have hw := hw.1 c9
        refine lv_iconst (v := (-1 : Int32)) hx hb dX0_kthOnTheWay_99 (by decide) ?_
        subst hQQ
        exact W.iret (v := (-1 : Int32)) hx hb hr (fun t ht _ => ⟨(-1 : Int32), rfl, hw, ht⟩) (by simp) dX0_kthOnTheWay_100
      · have hw := hw.2 c9
        refine lv_iload hx hb dX0_kthOnTheWay_25 (lv_at hl 5 rfl) ?_
        refine lv_iconst (v := (-1 : Int32)) hx hb dX0_kthOnTheWay_27 (by decide) ?_
        refine lv_icmp_eq (tgt := 99) hx hb dX0_kthOnTheWay_28 (by decide) (fun c9 => ?_) (fun c9 => ?_)
        · have hw := hw.1 c9
          refine lv_iconst (v := (-1 : Int32)) hx hb dX0_kthOnTheWay_99 (by decide) ?_
          subst hQQ
          exact W.iret (v := (-1 : Int32)) hx hb hr (fun t ht _ => ⟨(-1 : Int32), rfl, hw, ht⟩) (by simp) dX0_kthOnTheWay_100
        · have hw := hw.2 c9
          refine lv_iload hx hb dX0_kthOnTheWay_31 (lv_at hl 5 rfl) ?_
          refine lv_iload hx hb dX0_kthOnTheWay_33 (lv_at hl 4 rfl) ?_
          refine lv_icmp_lt (tgt := 99) hx hb dX0_kthOnTheWay_35 (by decide) (fun c9 => ?_) (fun c9 => ?_)
          · have hw := hw.1 c9
            refine lv_iconst (v := (-1 : Int32)) hx hb dX0_kthOnTheWay_99 (by decide) ?_
            subst hQQ
            exact W.iret (v := (-1 : Int32)) hx hb hr (fun t ht _ => ⟨(-1 : Int32), rfl, hw, ht⟩) (by simp) dX0_kthOnTheWay_100
          · have hw := hw.2 c9
            refine lv_iload hx hb dX0_kthOnTheWay_38 (lv_at hl 5 rfl) ?_
            refine lv_iload hx hb dX0_kthOnTheWay_40 (lv_at hl 4 rfl) ?_
            refine lv_icmp_ne (tgt := 75) hx hb dX0_kthOnTheWay_42 (by decide) (fun c9 => ?_) (fun c9 => ?_)
            · have hw := hw.2 c9
              refine lv_iload hx hb dX0_kthOnTheWay_75 (lv_at hl 4 rfl) ?_
              refine lv_iconst (v := (-1 : Int32)) hx hb dX0_kthOnTheWay_77 (by decide) ?_
              refine lv_icmp_ne (tgt := 85) hx hb dX0_kthOnTheWay_78 (by decide) (fun c9 => ?_) (fun c9 => ?_)
              · have hw := hw.2 c9
                refine lv_aload_n hx hb dX0_kthOnTheWay_85 rfl (lv_at hl 0 rfl) ?_
                refine lv_iload hx hb dX0_kthOnTheWay_86 (lv_at hl 5 rfl) ?_
                refine vp_callSi (W.runV (As := [.int y17_5]) (rest := []) ⟨hx, hb, hml, hown, hbg⟩ (met_X0_lastRecordBefore l dC dI qA qA_ring qA_buffer cA_ring cA_buffer A_ring A_buffer A_firstPlace A_forcedPlace A_endPlace A_wordsToFailure A_opened y17_5 _ hw) (cwV 1 hbg g_RX0_88 rfl rfl rfl (by decide +kernel) ⟨Nat.le_of_ble_eq_true rfl, Nat.le_of_ble_eq_true rfl⟩) ⟨pcR_A_b _ _ _ _ _ _ _ _ _ _ _ _ _ _ _ , va_recv hK hP (ci := 0) (q0 := 0) rfl rfl, fun U hU hW => ⟨rfl, by rw [hU]; exact hP, va_K.moved hW.alike hK⟩⟩ rfl rfl hl.1 rfl (lv_room (Nat.le_of_ble_eq_true rfl)) dX0_kthOnTheWay_88 ⟨Nat.le_of_ble_eq_true rfl, Nat.le_of_ble_eq_true rfl⟩) (fun r_1 hw => ?_)
                try dsimp only at hw
                refine lv_istore (lv' := [(5, .int r_1), (0, .ref qA), (1, .int k17_1), (2, .int k17_2), (3, .int k17_3), (4, .int y17_4), (6, .int y17_6), (7, .int y17_7)]) hx hb dX0_kthOnTheWay_91 hl (by decide) rfl (fun ls hl => ?_)
                refine lv_iinc (v := y17_7 + (1 : Int32)) (lv' := [(7, .int (y17_7 + (1 : Int32))), (5, .int r_1), (0, .ref qA), (1, .int k17_1), (2, .int k17_2), (3, .int k17_3), (4, .int y17_4), (6, .int y17_6)]) hx hb dX0_kthOnTheWay_93 hl (k := 7) rfl rfl (by decide) rfl (fun ls hl => ?_)
                refine lv_goto (tgt := 17) hx hb dX0_kthOnTheWay_96 (by decide) ?_
                exact ih17 k17_1 k17_2 k17_3 y17_4 r_1 y17_6 (y17_7 + (1 : Int32)) hw ls (lv_sub hl [2, 3, 4, 5, 6, 1, 7, 0] rfl)
              · have hw := hw.1 c9
                refine lv_iconst (v := (-1 : Int32)) hx hb dX0_kthOnTheWay_81 (by decide) ?_
                refine lv_goto (tgt := 91) hx hb dX0_kthOnTheWay_82 (by decide) ?_
                refine lv_istore (lv' := [(5, .int (-1 : Int32)), (0, .ref qA), (1, .int k17_1), (2, .int k17_2), (3, .int k17_3), (4, .int y17_4), (6, .int y17_6), (7, .int y17_7)]) hx hb dX0_kthOnTheWay_91 hl (by decide) rfl (fun ls hl => ?_)
                refine lv_iinc (v := y17_7 + (1 : Int32)) (lv' := [(7, .int (y17_7 + (1 : Int32))), (5, .int (-1 : Int32)), (0, .ref qA), (1, .int k17_1), (2, .int k17_2), (3, .int k17_3), (4, .int y17_4), (6, .int y17_6)]) hx hb dX0_kthOnTheWay_93 hl (k := 7) rfl rfl (by decide) rfl (fun ls hl => ?_)
                refine lv_goto (tgt := 17) hx hb dX0_kthOnTheWay_96 (by decide) ?_
                exact ih17 k17_1 k17_2 k17_3 y17_4 (-1 : Int32) y17_6 (y17_7 + (1 : Int32)) hw ls (lv_sub hl [2, 3, 4, 5, 6, 1, 7, 0] rfl)
            · have hw := hw.1 c9
              refine lv_aload_n hx hb dX0_kthOnTheWay_45 rfl (lv_at hl 0 rfl) ?_
              refine lv_iload hx hb dX0_kthOnTheWay_46 (lv_at hl 5 rfl) ?_
              refine lv_iload_n hx hb dX0_kthOnTheWay_48 rfl (lv_at hl 1 rfl) ?_
              refine lv_iload_n hx hb dX0_kthOnTheWay_49 rfl (lv_at hl 2 rfl) ?_
              refine vp_callSi (W.runV (As := [.int y17_5, .int k17_1, .int k17_2]) (rest := []) ⟨hx, hb, hml, hown, hbg⟩ (met_X0_isAskedFor l dC dI qA qA_ring qA_buffer cA_ring cA_buffer A_ring A_buffer A_firstPlace A_forcedPlace A_endPlace A_wordsToFailure A_opened y17_5 k17_1 k17_2 _ hw) (cwV 3 hbg g_RX0_147 rfl rfl rfl (by decide +kernel) ⟨Nat.le_of_ble_eq_true rfl, Nat.le_of_ble_eq_true rfl⟩) ⟨pcR_A_b _ _ _ _ _ _ _ _ _ _ _ _ _ _ _ , va_recv hK hP (ci := 0) (q0 := 0) rfl rfl, fun U hU hW => ⟨rfl, by rw [hU]; exact hP, va_K.moved hW.alike hK⟩⟩ rfl rfl hl.1 rfl (lv_room (Nat.le_of_ble_eq_true rfl)) dX0_kthOnTheWay_50 ⟨Nat.le_of_ble_eq_true rfl, Nat.le_of_ble_eq_true rfl⟩) (fun r_2 hw => ?_)
              try dsimp only at hw
              refine lv_if_eq (tgt := 67) hx hb dX0_kthOnTheWay_53 (by decide) (fun c9 => ?_) (fun c9 => ?_)
              · have hw := hw.1 c9
                refine lv_aload_n hx hb dX0_kthOnTheWay_67 rfl (lv_at hl 0 rfl) ?_
                refine lv_iload hx hb dX0_kthOnTheWay_68 (lv_at hl 5 rfl) ?_
                refine vp_callSi (W.runV (As := [.int y17_5]) (rest := []) ⟨hx, hb, hml, hown, hbg⟩ (met_X0_stopBehind l dC dI qA qA_ring qA_buffer cA_ring cA_buffer A_ring A_buffer A_firstPlace A_forcedPlace A_endPlace A_wordsToFailure A_opened y17_5 _ hw) (cwV 1 hbg g_RX0_151 rfl rfl rfl (by decide +kernel) ⟨Nat.le_of_ble_eq_true rfl, Nat.le_of_ble_eq_true rfl⟩) ⟨pcR_A_b _ _ _ _ _ _ _ _ _ _ _ _ _ _ _ , va_recv hK hP (ci := 0) (q0 := 0) rfl rfl, fun U hU hW => ⟨rfl, by rw [hU]; exact hP, va_K.moved hW.alike hK⟩⟩ rfl rfl hl.1 rfl (lv_room (Nat.le_of_ble_eq_true rfl)) dX0_kthOnTheWay_70 ⟨Nat.le_of_ble_eq_true rfl, Nat.le_of_ble_eq_true rfl⟩) (fun r_3 hw => ?_)
                try dsimp only at hw
                refine lv_istore (lv' := [(4, .int r_3), (0, .ref qA), (1, .int k17_1), (2, .int k17_2), (3, .int k17_3), (5, .int y17_5), (6, .int y17_6), (7, .int y17_7)]) hx hb dX0_kthOnTheWay_73 hl (by decide) rfl (fun ls hl => ?_)
                refine lv_iload hx hb dX0_kthOnTheWay_75 (lv_at hl 0 rfl) ?_
                refine lv_iconst (v := (-1 : Int32)) hx hb dX0_kthOnTheWay_77 (by decide) ?_
                refine lv_icmp_ne (tgt := 85) hx hb dX0_kthOnTheWay_78 (by decide) (fun c9 => ?_) (fun c9 => ?_)
                · have hw := hw.2 c9
                  refine lv_aload_n hx hb dX0_kthOnTheWay_85 rfl (lv_at hl 1 rfl) ?_
                  refine lv_iload hx hb dX0_kthOnTheWay_86 (lv_at hl 5 rfl) ?_
                  refine vp_callSi (W.runV (As := [.int y17_5]) (rest := []) ⟨hx, hb, hml, hown, hbg⟩ (met_X0_lastRecordBefore l dC dI qA qA_ring qA_buffer cA_ring cA_buffer A_ring A_buffer A_firstPlace A_forcedPlace A_endPlace A_wordsToFailure A_opened y17_5 _ hw) (cwV 1 hbg g_RX0_88 rfl rfl rfl (by decide +kernel) ⟨Nat.le_of_ble_eq_true rfl, Nat.le_of_ble_eq_true rfl⟩) ⟨pcR_A_b _ _ _ _ _ _ _ _ _ _ _ _ _ _ _ , va_recv hK hP (ci := 0) (q0 := 0) rfl rfl, fun U hU hW => ⟨rfl, by rw [hU]; exact hP, va_K.moved hW.alike hK⟩⟩ rfl rfl hl.1 rfl (lv_room (Nat.le_of_ble_eq_true rfl)) dX0_kthOnTheWay_88 ⟨Nat.le_of_ble_eq_true rfl, Nat.le_of_ble_eq_true rfl⟩) (fun r_4 hw => ?_)
                  try dsimp only at hw
                  refine lv_istore (lv' := [(5, .int r_4), (4, .int r_3), (0, .ref qA), (1, .int k17_1), (2, .int k17_2), (3, .int k17_3), (6, .int y17_6), (7, .int y17_7)]) hx hb dX0_kthOnTheWay_91 hl (by decide) rfl (fun ls hl => ?_)
                  refine lv_iinc (v := y17_7 + (1 : Int32)) (lv' := [(7, .int (y17_7 + (1 : Int32))), (5, .int r_4), (4, .int r_3), (0, .ref qA), (1, .int k17_1), (2, .int k17_2), (3, .int k17_3), (6, .int y17_6)]) hx hb dX0_kthOnTheWay_93 hl (k := 7) rfl rfl (by decide) rfl (fun ls hl => ?_)
                  refine lv_goto (tgt := 17) hx hb dX0_kthOnTheWay_96 (by decide) ?_
                  exact ih17 k17_1 k17_2 k17_3 r_3 r_4 y17_6 (y17_7 + (1 : Int32)) hw ls (lv_sub hl [3, 4, 5, 6, 2, 1, 7, 0] rfl)
                · have hw := hw.1 c9
                  refine lv_iconst (v := (-1 : Int32)) hx hb dX0_kthOnTheWay_81 (by decide) ?_
                  refine lv_goto (tgt := 91) hx hb dX0_kthOnTheWay_82 (by decide) ?_
                  refine lv_istore (lv' := [(5, .int (-1 : Int32)), (4, .int r_3), (0, .ref qA), (1, .int k17_1), (2, .int k17_2), (3, .int k17_3), (6, .int y17_6), (7, .int y17_7)]) hx hb dX0_kthOnTheWay_91 hl (by decide) rfl (fun ls hl => ?_)
                  refine lv_iinc (v := y17_7 + (1 : Int32)) (lv' := [(7, .int (y17_7 + (1 : Int32))), (5, .int (-1 : Int32)), (4, .int r_3), (0, .ref qA), (1, .int k17_1), (2, .int k17_2), (3, .int k17_3), (6, .int y17_6)]) hx hb dX0_kthOnTheWay_93 hl (k := 7) rfl rfl (by decide) rfl (fun ls hl => ?_)
                  refine lv_goto (tgt := 17) hx hb dX0_kthOnTheWay_96 (by decide) ?_
                  exact ih17 k17_1 k17_2 k17_3 r_3 (-1 : Int32) y17_6 (y17_7 + (1 : Int32)) hw ls (lv_sub hl [3, 4, 5, 6, 2, 1, 7, 0] rfl)
              · have hw := hw.2 c9
                refine lv_iload hx hb dX0_kthOnTheWay_56 (lv_at hl 6 rfl) ?_
                refine lv_if_ne (tgt := 64) hx hb dX0_kthOnTheWay_58 (by decide) (fun c9 => ?_) (fun c9 => ?_)
                · have hw := hw.2 c9
                  refine lv_iinc (v := y17_6 + (-1 : Int32)) (lv' := [(6, .int (y17_6 + (-1 : Int32))), (0, .ref qA), (1, .int k17_1), (2, .int k17_2), (3, .int k17_3), (4, .int y17_4), (5, .int y17_5), (7, .int y17_7)]) hx hb dX0_kthOnTheWay_64 hl (k := 6) rfl rfl (by decide) rfl (fun ls hl => ?_)
                  refine lv_aload_n hx hb dX0_kthOnTheWay_67 rfl (lv_at hl 1 rfl) ?_
                  refine lv_iload hx hb dX0_kthOnTheWay_68 (lv_at hl 6 rfl) ?_
                  refine vp_callSi (W.runV (As := [.int y17_5]) (rest := []) ⟨hx, hb, hml, hown, hbg⟩ (met_X0_stopBehind l dC dI qA qA_ring qA_buffer cA_ring cA_buffer A_ring A_buffer A_firstPlace A_forcedPlace A_endPlace A_wordsToFailure A_opened y17_5 _ hw) (cwV 1 hbg g_RX0_151 rfl rfl rfl (by decide +kernel) ⟨Nat.le_of_ble_eq_true rfl, Nat.le_of_ble_eq_true rfl⟩) ⟨pcR_A_b _ _ _ _ _ _ _ _ _ _ _ _ _ _ _ , va_recv hK hP (ci := 0) (q0 := 0) rfl rfl, fun U hU hW => ⟨rfl, by rw [hU]; exact hP, va_K.moved hW.alike hK⟩⟩ rfl rfl hl.1 rfl (lv_room (Nat.le_of_ble_eq_true rfl)) dX0_kthOnTheWay_70 ⟨Nat.le_of_ble_eq_true rfl, Nat.le_of_ble_eq_true rfl⟩) (fun r_5 hw => ?_)
                  try dsimp only at hw
                  refine lv_istore (lv' := [(4, .int r_5), (6, .int (y17_6 + (-1 : Int32))), (0, .ref qA), (1, .int k17_1), (2, .int k17_2), (3, .int k17_3), (5, .int y17_5), (7, .int y17_7)]) hx hb dX0_kthOnTheWay_73 hl (by decide) rfl (fun ls hl => ?_)
                  refine lv_iload hx hb dX0_kthOnTheWay_75 (lv_at hl 0 rfl) ?_
                  refine lv_iconst (v := (-1 : Int32)) hx hb dX0_kthOnTheWay_77 (by decide) ?_
                  refine lv_icmp_ne (tgt := 85) hx hb dX0_kthOnTheWay_78 (by decide) (fun c9 => ?_) (fun c9 => ?_)
                  · have hw := hw.2 c9
                    refine lv_aload_n hx hb dX0_kthOnTheWay_85 rfl (lv_at hl 2 rfl) ?_
                    refine lv_iload hx hb dX0_kthOnTheWay_86 (lv_at hl 6 rfl) ?_
                    refine vp_callSi (W.runV (As := [.int y17_5]) (rest := []) ⟨hx, hb, hml, hown, hbg⟩ (met_X0_lastRecordBefore l dC dI qA qA_ring qA_buffer cA_ring cA_buffer A_ring A_buffer A_firstPlace A_forcedPlace A_endPlace A_wordsToFailure A_opened y17_5 _ hw) (cwV 1 hbg g_RX0_88 rfl rfl rfl (by decide +kernel) ⟨Nat.le_of_ble_eq_true rfl, Nat.le_of_ble_eq_true rfl⟩) ⟨pcR_A_b _ _ _ _ _ _ _ _ _ _ _ _ _ _ _ , va_recv hK hP (ci := 0) (q0 := 0) rfl rfl, fun U hU hW => ⟨rfl, by rw [hU]; exact hP, va_K.moved hW.alike hK⟩⟩ rfl rfl hl.1 rfl (lv_room (Nat.le_of_ble_eq_true rfl)) dX0_kthOnTheWay_88 ⟨Nat.le_of_ble_eq_true rfl, Nat.le_of_ble_eq_true rfl⟩) (fun r_6 hw => ?_)
                    try dsimp only at hw
                    refine lv_istore (lv' := [(5, .int r_6), (4, .int r_5), (6, .int (y17_6 + (-1 : Int32))), (0, .ref qA), (1, .int k17_1), (2, .int k17_2), (3, .int k17_3), (7, .int y17_7)]) hx hb dX0_kthOnTheWay_91 hl (by decide) rfl (fun ls hl => ?_)
                    refine lv_iinc (v := y17_7 + (1 : Int32)) (lv' := [(7, .int (y17_7 + (1 : Int32))), (5, .int r_6), (4, .int r_5), (6, .int (y17_6 + (-1 : Int32))), (0, .ref qA), (1, .int k17_1), (2, .int k17_2), (3, .int k17_3)]) hx hb dX0_kthOnTheWay_93 hl (k := 7) rfl rfl (by decide) rfl (fun ls hl => ?_)
                    refine lv_goto (tgt := 17) hx hb dX0_kthOnTheWay_96 (by decide) ?_
                    exact ih17 k17_1 k17_2 k17_3 r_5 r_6 (y17_6 + (-1 : Int32)) (y17_7 + (1 : Int32)) hw ls (lv_sub hl [4, 5, 6, 7, 2, 1, 3, 0] rfl)
                  · have hw := hw.1 c9
                    refine lv_iconst (v := (-1 : Int32)) hx hb dX0_kthOnTheWay_81 (by decide) ?_
                    refine lv_goto (tgt := 91) hx hb dX0_kthOnTheWay_82 (by decide) ?_
                    refine lv_istore (lv' := [(5, .int (-1 : Int32)), (4, .int r_5), (6, .int (y17_6 + (-1 : Int32))), (0, .ref qA), (1, .int k17_1), (2, .int k17_2), (3, .int k17_3), (7, .int y17_7)]) hx hb dX0_kthOnTheWay_91 hl (by decide) rfl (fun ls hl => ?_)
                    refine lv_iinc (v := y17_7 + (1 : Int32)) (lv' := [(7, .int (y17_7 + (1 : Int32))), (5, .int (-1 : Int32)), (4, .int r_5), (6, .int (y17_6 + (-1 : Int32))), (0, .ref qA), (1, .int k17_1), (2, .int k17_2), (3, .int k17_3)]) hx hb dX0_kthOnTheWay_93 hl (k := 7) rfl rfl (by decide) rfl (fun ls hl => ?_)
                    refine lv_goto (tgt := 17) hx hb dX0_kthOnTheWay_96 (by decide) ?_
                    exact ih17 k17_1 k17_2 k17_3 r_5 (-1 : Int32) (y17_6 + (-1 : Int32)) (y17_7 + (1 : Int32)) hw ls (lv_sub hl [4, 5, 6, 7, 2, 1, 3, 0] rfl)
                · have hw := hw.1 c9
                  refine lv_iload hx hb dX0_kthOnTheWay_61 (lv_at hl 5 rfl) ?_
                  subst hQQ
                  exact W.iret (v := y17_5) hx hb hr (fun t ht _ => ⟨y17_5, rfl, hw, ht⟩) (by simp) dX0_kthOnTheWay_63
  refine lv_aload_n hx hb dX0_kthOnTheWay_0 rfl (lv_at hl 0 rfl) ?_
  refine lv_iload_n hx hb dX0_kthOnTheWay_1 rfl (lv_at hl 1 rfl) ?_
  refine vp_callSi (W.runV (As := [.int x1]) (rest := []) ⟨hx, hb, hml, hown, hbg⟩ (met_X0_lastRecordOf l dC dI qA qA_ring qA_buffer cA_ring cA_buffer A_ring A_buffer A_firstPlace A_forcedPlace A_endPlace A_wordsToFailure A_opened x1 _ hw) (cwV 1 hbg g_RX0_61 rfl rfl rfl (by decide +kernel) ⟨Nat.le_of_ble_eq_true rfl, Nat.le_of_ble_eq_true rfl⟩) ⟨pcR_A_b _ _ _ _ _ _ _ _ _ _ _ _ _ _ _ , va_recv hK hP (ci := 0) (q0 := 0) rfl rfl, fun U hU hW => ⟨rfl, by rw [hU]; exact hP, va_K.moved hW.alike hK⟩⟩ rfl rfl hl.1 rfl (lv_room (Nat.le_of_ble_eq_true rfl)) dX0_kthOnTheWay_2 ⟨Nat.le_of_ble_eq_true rfl, Nat.le_of_ble_eq_true rfl⟩) (fun r_7 hw => ?_)
  try dsimp only at hw
  refine lv_istore (lv' := [(4, .int r_7), (0, .ref qA), (1, .int x1), (2, .int x2), (3, .int x3)]) hx hb dX0_kthOnTheWay_5 hl (by decide) rfl (fun ls hl => ?_)
  refine lv_iload hx hb dX0_kthOnTheWay_7 (lv_at hl 0 rfl) ?_
  refine lv_istore (lv' := [(5, .int r_7), (4, .int r_7), (0, .ref qA), (1, .int x1), (2, .int x2), (3, .int x3)]) hx hb dX0_kthOnTheWay_9 hl (by decide) rfl (fun ls hl => ?_)
  refine lv_iload_n hx hb dX0_kthOnTheWay_11 rfl (lv_at hl 5 rfl) ?_
  refine lv_istore (lv' := [(6, .int x3), (5, .int r_7), (4, .int r_7), (0, .ref qA), (1, .int x1), (2, .int x2), (3, .int x3)]) hx hb dX0_kthOnTheWay_12 hl (by decide) rfl (fun ls hl => ?_)
  refine lv_iconst (v := (0 : Int32)) hx hb dX0_kthOnTheWay_14 (by decide) ?_
  refine lv_istore (lv' := [(7, .int (0 : Int32)), (6, .int x3), (5, .int r_7), (4, .int r_7), (0, .ref qA), (1, .int x1), (2, .int x2), (3, .int x3)]) hx hb dX0_kthOnTheWay_15 hl (by decide) rfl (fun ls hl => ?_)
  obtain ⟨n9, hw⟩ := hw
  exact hL17 n9 x1 x2 x3 r_7 r_7 x3 (0 : Int32) hw ls (lv_sub hl [4, 5, 6, 7, 3, 2, 1, 0] rfl)
