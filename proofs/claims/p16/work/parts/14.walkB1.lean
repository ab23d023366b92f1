def wp_X1_thrown (post : Int32 → Prop) (B_thrown : Int32) (B_buffer : Nat → Int32) (B_words : Nat → Int32) (B_serials : Nat → Int32) (B_lengths : Nat → Int32) (B_kinds : Nat → Int32) (B_owners : Nat → Int32) (B_olders : Nat → Int32) (B_links : Nat → Int32) (B_voids : Nat → Int32) (B_base : Int32) (B_count : Int32) (B_first : Int32) (B_forced : Int32) (B_end : Int32) (B_closed : Int32) (B_left : Int32) (B_begun : Int32) (B_begunLength : Int32) : Prop :=
  post B_thrown
set_option maxHeartbeats 4000000 in
set_option maxRecDepth 100000 in
theorem met_X1_thrown (l : Launch) (dC : Nat → ClassId) (dI : Nat → Nat → Nat) (qB qB_buffer qB_words qB_serials qB_lengths qB_kinds qB_owners qB_olders qB_links qB_voids : Nat) (cB_buffer cB_words cB_serials cB_lengths cB_kinds cB_owners cB_olders cB_links cB_voids : ClassId) (B_thrown : Int32) (B_buffer : Nat → Int32) (B_words : Nat → Int32) (B_serials : Nat → Int32) (B_lengths : Nat → Int32) (B_kinds : Nat → Int32) (B_owners : Nat → Int32) (B_olders : Nat → Int32) (B_links : Nat → Int32) (B_voids : Nat → Int32) (B_base : Int32) (B_count : Int32) (B_first : Int32) (B_forced : Int32) (B_end : Int32) (B_closed : Int32) (B_left : Int32) (B_begun : Int32) (B_begunLength : Int32) (post : Int32 → Prop) (hw : wp_X1_thrown post B_thrown B_buffer B_words B_serials B_lengths B_kinds B_owners B_olders B_links B_voids B_base B_count B_first B_forced B_end B_closed B_left B_begun B_begunLength) :
    Met l yX1_thrown wsX1_thrown ({ frames := 0, cells := 0, slots := 0, locals := 0 } : Room) (pcR_B dC dI qB qB_buffer qB_words qB_serials qB_lengths qB_kinds qB_owners qB_olders qB_links qB_voids cB_buffer cB_words cB_serials cB_lengths cB_kinds cB_owners cB_olders cB_links cB_voids B_thrown B_buffer B_words B_serials B_lengths B_kinds B_owners B_olders B_links B_voids B_base B_count B_first B_forced B_end B_closed B_left B_begun B_begunLength [.ref qB]) (vp_Si post) 0 0 (fun _ => False) := by
  refine Met.ofW (cc := cX1_thrown) (maxL := 1) (ret := (some .int)) (by decide) rfl ?_
  intro p e s m args below meth c s₁ B hml hv
  obtain ⟨hav, hP, hK⟩ := hv
  have hx := B.exec
  have hb := B.bytes
  have hr := B.returns
  have hts := atoms_spec (ws := wsX1_thrown) B.pre
  have hbg : ∀ w ∈ bigW, w.before args s = true := fun w h => hts w (List.mem_cons_of_mem _ h)
  have hown : s.vm.findClass RX1 = some m.cls := findClass_of_methodNamed B.named
  have hlocks := B.notSynchronized
  have hP : va_P (dC, dI) vwCl [(qB, .inr (1, [.int B_thrown, .ref qB_buffer, .ref qB_words, .ref qB_serials, .ref qB_lengths, .ref qB_kinds, .ref qB_owners, .ref qB_olders, .ref qB_links, .ref qB_voids, .int B_base, .int B_count, .int B_first, .int B_forced, .int B_end, .int B_closed, .int B_left, .int B_begun, .int B_begunLength])), (qB_buffer, .inl (cB_buffer, 200, .inl B_buffer)), (qB_words, .inl (cB_words, 65536, .inl B_words)), (qB_serials, .inl (cB_serials, 4400, .inl B_serials)), (qB_lengths, .inl (cB_lengths, 4400, .inl B_lengths)), (qB_kinds, .inl (cB_kinds, 4400, .inl B_kinds)), (qB_owners, .inl (cB_owners, 4400, .inl B_owners)), (qB_olders, .inl (cB_olders, 4400, .inl B_olders)), (qB_links, .inl (cB_links, 4400, .inl B_links)), (qB_voids, .inl (cB_voids, 4400, .inl B_voids))] s.heap := hP
  generalize hQQ : MQ below (vp_Si post) args s 0 0 (fun _ => False) = QQ
  have hl := lv_entry ([.ref qB]) (n := 1) (Nat.le_of_ble_eq_true rfl)
  rw [show entryFrame m args 1 = entryFrame m ([.ref qB] : List Value).toArray 1 by rw [hav], lg_entry_eq]
  generalize (lg_sl ([.ref qB]) ++ List.replicate (1 - (lg_sl ([.ref qB])).length) Slot.unset).toArray = ls at hl ⊢
  have hl : lv_has ls 1 [(0, .ref qB)] := hl
  unfold wp_X1_thrown at hw
  refine lv_aload_n hx hb dX1_thrown_0 rfl (lv_at hl 0 rfl) ?_
  refine va_get (D := (dC, dI)) (ci := 1) (v := .int B_thrown) (C := RX1) (T := TX1) (N := 19) hx hb hbg in_X1 hown hK hP 0 rfl rfl 0 (by decide) (hbg _ kw_64) (fun _ h9 => h9) rfl dX1_thrown_1 ?_
  subst hQQ
  exact W.iret (v := B_thrown) hx hb hr (fun t ht _ => ⟨B_thrown, rfl, hw, ht⟩) (by simp) dX1_thrown_4
def wp_X1_in (post : Int32 → Prop) (x0 : Int32) (x1 : Int32) (x2 : Int32) : Prop :=
  ((x0 < x1 → post (0 : Int32)) ∧ (¬ x0 < x1 → ((x2 < x0 → post (0 : Int32)) ∧ (¬ x2 < x0 → post (1 : Int32)))))
set_option maxHeartbeats 4000000 in
set_option maxRecDepth 100000 in
theorem met_X1_in (l : Launch) (dC : Nat → ClassId) (dI : Nat → Nat → Nat) (x0 : Int32) (x1 : Int32) (x2 : Int32) (post : Int32 → Prop) (hw : wp_X1_in post x0 x1 x2) :
    Met l yX1_in wsX1_in ({ frames := 0, cells := 0, slots := 0, locals := 0 } : Room) (pcR_N dC dI   [.int x0, .int x1, .int x2]) (vp_Si post) 0 0 (fun _ => False) := by
  refine Met.ofW (cc := cX1_in) (maxL := 3) (ret := (some .boolean)) (by decide) rfl ?_
  intro p e s m args below meth c s₁ B hml hv
  obtain ⟨hav, hP, hK⟩ := hv
  have hx := B.exec
  have hb := B.bytes
  have hr := B.returns
  have hts := atoms_spec (ws := wsX1_in) B.pre
  have hbg : ∀ w ∈ bigW, w.before args s = true := fun w h => hts w (List.mem_cons_of_mem _ h)
  have hown : s.vm.findClass RX1 = some m.cls := findClass_of_methodNamed B.named
  have hlocks := B.notSynchronized
  have hP : va_P (dC, dI) vwCl [] s.heap := hP
  generalize hQQ : MQ below (vp_Si post) args s 0 0 (fun _ => False) = QQ
  have hl := lv_entry ([.int x0, .int x1, .int x2]) (n := 3) (Nat.le_of_ble_eq_true rfl)
  rw [show entryFrame m args 3 = entryFrame m ([.int x0, .int x1, .int x2] : List Value).toArray 3 by rw [hav], lg_entry_eq]
  generalize (lg_sl ([.int x0, .int x1, .int x2]) ++ List.replicate (3 - (lg_sl ([.int x0, .int x1, .int x2])).length) Slot.unset).toArray = ls at hl ⊢
  have hl : lv_has ls 3 [(0, .int x0), (1, .int x1), (2, .int x2)] := hl
  unfold wp_X1_in at hw
  refine lv_iload_n hx hb dX1_in_0 rfl (lv_at hl 0 rfl) ?_
  refine lv_iload_n hx hb dX1_in_1 rfl (lv_at hl 1 rfl) ?_
  refine lv_icmp_lt (tgt := 14) hx hb dX1_in_2 (by decide) (fun c9 => ?_) (fun c9 => ?_)
  · have hw := hw.1 c9
    refine lv_iconst (v := (0 : Int32)) hx hb dX1_in_14 (by decide) ?_
    subst hQQ
    exact W.zret (v := (0 : Int32)) hx hb hr rfl (fun t ht _ => ⟨(0 : Int32), rfl, hw, ht⟩) (by simp) dX1_in_15
  · have hw := hw.2 c9
    refine lv_iload_n hx hb dX1_in_5 rfl (lv_at hl 0 rfl) ?_
    refine lv_iload_n hx hb dX1_in_6 rfl (lv_at hl 2 rfl) ?_
    refine lv_icmp_gt (tgt := 14) hx hb dX1_in_7 (by decide) (fun c9 => ?_) (fun c9 => ?_)
    · have hw := hw.1 c9
      refine lv_iconst (v := (0 : Int32)) hx hb dX1_in_14 (by decide) ?_
      subst hQQ
      exact W.zret (v := (0 : Int32)) hx hb hr rfl (fun t ht _ => ⟨(0 : Int32), rfl, hw, ht⟩) (by simp) dX1_in_15
    · have hw := hw.2 c9
      refine lv_iconst (v := (1 : Int32)) hx hb dX1_in_10 (by decide) ?_
      refine lv_goto (tgt := 15) hx hb dX1_in_11 (by decide) ?_
      subst hQQ
      exact W.zret (v := (1 : Int32)) hx hb hr rfl (fun t ht _ => ⟨(1 : Int32), rfl, hw, ht⟩) (by simp) dX1_in_15
def wl_X1_rowOf_7 (post : Int32 → Prop) (B_thrown : Int32) (B_buffer : Nat → Int32) (B_words : Nat → Int32) (B_serials : Nat → Int32) (B_lengths : Nat → Int32) (B_kinds : Nat → Int32) (B_owners : Nat → Int32) (B_olders : Nat → Int32) (B_links : Nat → Int32) (B_voids : Nat → Int32) (B_base : Int32) (B_count : Int32) (B_first : Int32) (B_forced : Int32) (B_end : Int32) (B_closed : Int32) (B_left : Int32) (B_begun : Int32) (B_begunLength : Int32) (k7_1 : Int32) : Nat → Int32 → Int32 → Prop
  | 0, _, _ => False
  | n7 + 1, y7_2, y7_3 =>
    ((B_count ≤ y7_3 → post y7_2) ∧ (¬ B_count ≤ y7_3 → vp_in y7_3 4400 ∧ ((((B_serials y7_3.toNatClampNeg) = k7_1 → vp_in y7_3 4400 ∧ ((((B_voids y7_3.toNatClampNeg) = (0 : Int32) → wl_X1_rowOf_7 post B_thrown B_buffer B_words B_serials B_lengths B_kinds B_owners B_olders B_links B_voids B_base B_count B_first B_forced B_end B_closed B_left B_begun B_begunLength k7_1 n7 y7_3 (y7_3 + (1 : Int32))) ∧ (¬ (B_voids y7_3.toNatClampNeg) = (0 : Int32) → wl_X1_rowOf_7 post B_thrown B_buffer B_words B_serials B_lengths B_kinds B_owners B_olders B_links B_voids B_base B_count B_first B_forced B_end B_closed B_left B_begun B_begunLength k7_1 n7 y7_2 (y7_3 + (1 : Int32)))))) ∧ (¬ (B_serials y7_3.toNatClampNeg) = k7_1 → wl_X1_rowOf_7 post B_thrown B_buffer B_words B_serials B_lengths B_kinds B_owners B_olders B_links B_voids B_base B_count B_first B_forced B_end B_closed B_left B_begun B_begunLength k7_1 n7 y7_2 (y7_3 + (1 : Int32)))))))
def wp_X1_rowOf (post : Int32 → Prop) (x1 : Int32) (B_thrown : Int32) (B_buffer : Nat → Int32) (B_words : Nat → Int32) (B_serials : Nat → Int32) (B_lengths : Nat → Int32) (B_kinds : Nat → Int32) (B_owners : Nat → Int32) (B_olders : Nat → Int32) (B_links : Nat → Int32) (B_voids : Nat → Int32) (B_base : Int32) (B_count : Int32) (B_first : Int32) (B_forced : Int32) (B_end : Int32) (B_closed : Int32) (B_left : Int32) (B_begun : Int32) (B_begunLength : Int32) : Prop :=
  ∃ n, wl_X1_rowOf_7 post B_thrown B_buffer B_words B_serials B_lengths B_kinds B_owners B_olders B_links B_voids B_base B_count B_first B_forced B_end B_closed B_left B_begun B_begunLength x1 n (-1 : Int32) B_base
set_option maxHeartbeats 4000000 in
set_option maxRecDepth 100000 in
theorem met_X1_rowOf (l : Launch) (dC : Nat → ClassId) (dI : Nat → Nat → Nat) (qB qB_buffer qB_words qB_serials qB_lengths qB_kinds qB_owners qB_olders qB_links qB_voids : Nat) (cB_buffer cB_words cB_serials cB_lengths cB_kinds cB_owners cB_olders cB_links cB_voids : ClassId) (B_thrown : Int32) (B_buffer : Nat → Int32) (B_words : Nat → Int32) (B_serials : Nat → Int32) (B_lengths : Nat → Int32) (B_kinds : Nat → Int32) (B_owners : Nat → Int32) (B_olders : Nat → Int32) (B_links : Nat → Int32) (B_voids : Nat → Int32) (B_base : Int32) (B_count : Int32) (B_first : Int32) (B_forced : Int32) (B_end : Int32) (B_closed : Int32) (B_left : Int32) (B_begun : Int32) (B_begunLength : Int32) (x1 : Int32) (post : Int32 → Prop) (hw : wp_X1_rowOf post x1 B_thrown B_buffer B_words B_serials B_lengths B_kinds B_owners B_olders B_links B_voids B_base B_count B_first B_forced B_end B_closed B_left B_begun B_begunLength) :
    Met l yX1_rowOf wsX1_rowOf ({ frames := 0, cells := 0, slots := 0, locals := 0 } : Room) (pcR_B dC dI qB qB_buffer qB_words qB_serials qB_lengths qB_kinds qB_owners qB_olders qB_links qB_voids cB_buffer cB_words cB_serials cB_lengths cB_kinds cB_owners cB_olders cB_links cB_voids B_thrown B_buffer B_words B_serials B_lengths B_kinds B_owners B_olders B_links B_voids B_base B_count B_first B_forced B_end B_closed B_left B_begun B_begunLength [.ref qB, .int x1]) (vp_Si post) 0 0 (fun _ => False) := by
  refine Met.ofW (cc := cX1_rowOf) (maxL := 4) (ret := (some .int)) (by decide) rfl ?_
  intro p e s m args below meth c s₁ B hml hv
  obtain ⟨hav, hP, hK⟩ := hv
  have hx := B.exec
  have hb := B.bytes
  have hr := B.returns
  have hts := atoms_spec (ws := wsX1_rowOf) B.pre
  have hbg : ∀ w ∈ bigW, w.before args s = true := fun w h => hts w (List.mem_cons_of_mem _ h)
  have hown : s.vm.findClass RX1 = some m.cls := findClass_of_methodNamed B.named
  have hlocks := B.notSynchronized
  have hP : va_P (dC, dI) vwCl [(qB, .inr (1, [.int B_thrown, .ref qB_buffer, .ref qB_words, .ref qB_serials, .ref qB_lengths, .ref qB_kinds, .ref qB_owners, .ref qB_olders, .ref qB_links, .ref qB_voids, .int B_base, .int B_count, .int B_first, .int B_forced, .int B_end, .int B_closed, .int B_left, .int B_begun, .int B_begunLength])), (qB_buffer, .inl (cB_buffer, 200, .inl B_buffer)), (qB_words, .inl (cB_words, 65536, .inl B_words)), (qB_serials, .inl (cB_serials, 4400, .inl B_serials)), (qB_lengths, .inl (cB_lengths, 4400, .inl B_lengths)), (qB_kinds, .inl (cB_kinds, 4400, .inl B_kinds)), (qB_owners, .inl (cB_owners, 4400, .inl B_owners)), (qB_olders, .inl (cB_olders, 4400, .inl B_olders)), (qB_links, .inl (cB_links, 4400, .inl B_links)), (qB_voids, .inl (cB_voids, 4400, .inl B_voids))] s.heap := hP
  generalize hQQ : MQ below (vp_Si post) args s 0 0 (fun _ => False) = QQ
  have hl := lv_entry ([.ref qB, .int x1]) (n := 4) (Nat.le_of_ble_eq_true rfl)
  rw [show entryFrame m args 4 = entryFrame m ([.ref qB, .int x1] : List Value).toArray 4 by rw [hav], lg_entry_eq]
  generalize (lg_sl ([.ref qB, .int x1]) ++ List.replicate (4 - (lg_sl ([.ref qB, .int x1])).length) Slot.unset).toArray = ls at hl ⊢
  have hl : lv_has ls 4 [(0, .ref qB), (1, .int x1)] := hl
  unfold wp_X1_rowOf at hw
  have hL7 : ∀ (n7 : Nat) (k7_1 : Int32) (y7_2 : Int32) (y7_3 : Int32), wl_X1_rowOf_7 post B_thrown B_buffer B_words B_serials B_lengths B_kinds B_owners B_olders B_links B_voids B_base B_count B_first B_forced B_end B_closed B_left B_begun B_begunLength k7_1 n7 y7_2 y7_3 → ∀ ls : Array Slot, lv_has ls 4 [(0, .ref qB), (1, .int k7_1), (2, .int y7_2), (3, .int y7_3)] → W p l e (headSpec wsX1_rowOf ({ frames := 0, cells := 0, slots := 0, locals := 0 } : Room)).room s m args below meth c s.heap [] 0 0 QQ (F0 m 7 ls []) := by
    intro n7
    induction n7 with
    | zero => intro k7_1 y7_2 y7_3 hw; exact False.elim hw
    | succ n7 ih7 =>
      intro k7_1 y7_2 y7_3 hw ls hl
      rw [wl_X1_rowOf_7] at hw
      refine lv_iload_n hx hb dX1_rowOf_7 rfl (lv_at hl 3 rfl) ?_
      refine lv_aload_n hx hb dX1_rowOf_8 rfl (lv_at hl 0 rfl) ?_
      refine va_get (D := (dC, dI)) (ci := 1) (v := .int B_count) (C := RX1) (T := TX1) (N := 19) hx hb hbg in_X1 hown hK hP 0 rfl rfl 11 (by decide) (hbg _ kw_66) (fun _ h9 => h9) rfl dX1_rowOf_9 ?_
      refine lv_icmp_ge (tgt := 46) hx hb dX1_rowOf_12 (by decide) (fun c9 => ?_) (fun c9 => ?_)
      · have hw := hw.1 c9
        refine lv_iload_n hx hb dX1_rowOf_46 rfl (lv_at hl 2 rfl) ?_
        subst hQQ
        exact W.iret (v := y7_2) hx hb hr (fun t ht _ => ⟨y7_2, rfl, hw, ht⟩) (by simp) dX1_rowOf_47
      · have hw := hw.2 c9
        refine lv_aload_n hx hb dX1_rowOf_15 rfl (lv_at hl 0 rfl) ?_
        refine va_get (D := (dC, dI)) (ci := 1) (v := .ref qB_serials) (C := RX1) (T := TX1) (N := 19) hx hb hbg in_X1 hown hK hP 0 rfl rfl 3 (by decide) (hbg _ kw_67) (fun _ h9 => h9) rfl dX1_rowOf_16 ?_
        refine lv_iload_n hx hb dX1_rowOf_19 rfl (lv_at hl 3 rfl) ?_
        obtain ⟨h_1, hw⟩ := hw
        refine va_iald hx hb hK hP 3 2 rfl rfl h_1 dX1_rowOf_20 ?_
        refine lv_iload_n hx hb dX1_rowOf_21 rfl (lv_at hl 1 rfl) ?_
        refine lv_icmp_ne (tgt := 38) hx hb dX1_rowOf_22 (by decide) (fun c9 => ?_) (fun c9 => ?_)
        · have hw := hw.2 c9
          refine lv_iload_n hx hb dX1_rowOf_38 rfl (lv_at hl 2 rfl) ?_
          refine lv_istore_n (lv' := [(2, .int y7_2), (0, .ref qB), (1, .int k7_1), (3, .int y7_3)]) hx hb dX1_rowOf_39 rfl hl (by decide) rfl (fun ls hl => ?_)
          refine lv_iinc (v := y7_3 + (1 : Int32)) (lv' := [(3, .int (y7_3 + (1 : Int32))), (2, .int y7_2), (0, .ref qB), (1, .int k7_1)]) hx hb dX1_rowOf_40 hl (k := 3) rfl rfl (by decide) rfl (fun ls hl => ?_)
          refine lv_goto (tgt := 7) hx hb dX1_rowOf_43 (by decide) ?_
          exact ih7 k7_1 y7_2 (y7_3 + (1 : Int32)) hw ls (lv_sub hl [2, 3, 1, 0] rfl)
        · have hw := hw.1 c9
          refine lv_aload_n hx hb dX1_rowOf_25 rfl (lv_at hl 0 rfl) ?_
          refine va_get (D := (dC, dI)) (ci := 1) (v := .ref qB_voids) (C := RX1) (T := TX1) (N := 19) hx hb hbg in_X1 hown hK hP 0 rfl rfl 9 (by decide) (hbg _ kw_68) (fun _ h9 => h9) rfl dX1_rowOf_26 ?_
          refine lv_iload_n hx hb dX1_rowOf_29 rfl (lv_at hl 3 rfl) ?_
          obtain ⟨h_2, hw⟩ := hw
          refine va_zald hx hb hK hP 9 8 rfl rfl h_2 dX1_rowOf_30 ?_
          refine lv_if_ne (tgt := 38) hx hb dX1_rowOf_31 (by decide) (fun c9 => ?_) (fun c9 => ?_)
          · have hw := hw.2 c9
            refine lv_iload_n hx hb dX1_rowOf_38 rfl (lv_at hl 2 rfl) ?_
            refine lv_istore_n (lv' := [(2, .int y7_2), (0, .ref qB), (1, .int k7_1), (3, .int y7_3)]) hx hb dX1_rowOf_39 rfl hl (by decide) rfl (fun ls hl => ?_)
            refine lv_iinc (v := y7_3 + (1 : Int32)) (lv' := [(3, .int (y7_3 + (1 : Int32))), (2, .int y7_2), (0, .ref qB), (1, .int k7_1)]) hx hb dX1_rowOf_40 hl (k := 3) rfl rfl (by decide) rfl (fun ls hl => ?_)
            refine lv_goto (tgt := 7) hx hb dX1_rowOf_43 (by decide) ?_
            exact ih7 k7_1 y7_2 (y7_3 + (1 : Int32)) hw ls (lv_sub hl [2, 3, 1, 0] rfl)
          · have hw := hw.1 c9
            refine lv_iload_n hx hb dX1_rowOf_34 rfl (lv_at hl 3 rfl) ?_
            refine lv_goto (tgt := 39) hx hb dX1_rowOf_35 (by decide) ?_
            refine lv_istore_n (lv' := [(2, .int y7_3), (0, .ref qB), (1, .int k7_1), (3, .int y7_3)]) hx hb dX1_rowOf_39 rfl hl (by decide) rfl (fun ls hl => ?_)
            refine lv_iinc (v := y7_3 + (1 : Int32)) (lv' := [(3, .int (y7_3 + (1 : Int32))), (2, .int y7_3), (0, .ref qB), (1, .int k7_1)]) hx hb dX1_rowOf_40 hl (k := 3) rfl rfl (by decide) rfl (fun ls hl => ?_)
            refine lv_goto (tgt := 7) hx hb dX1_rowOf_43 (by decide) ?_
            exact ih7 k7_1 y7_3 (y7_3 + (1 : Int32)) hw ls (lv_sub hl [2, 3, 1, 0] rfl)
  refine lv_iconst (v := (-1 : Int32)) hx hb dX1_rowOf_0 (by decide) ?_
  refine lv_istore_n (lv' := [(2, .int (-1 : Int32)), (0, .ref qB), (1, .int x1)]) hx hb dX1_rowOf_1 rfl hl (by decide) rfl (fun ls hl => ?_)
  refine lv_aload_n hx hb dX1_rowOf_2 rfl (lv_at hl 1 rfl) ?_
  refine va_get (D := (dC, dI)) (ci := 1) (v := .int B_base) (C := RX1) (T := TX1) (N := 19) hx hb hbg in_X1 hown hK hP 0 rfl rfl 10 (by decide) (hbg _ kw_65) (fun _ h9 => h9) rfl dX1_rowOf_3 ?_
  refine lv_istore_n (lv' := [(3, .int B_base), (2, .int (-1 : Int32)), (0, .ref qB), (1, .int x1)]) hx hb dX1_rowOf_6 rfl hl (by decide) rfl (fun ls hl => ?_)
  obtain ⟨n9, hw⟩ := hw
  exact hL7 n9 x1 (-1 : Int32) B_base hw ls (lv_sub hl [2, 3, 1, 0] rfl)
def wl_X1_latestOf_7 (post : Int32 → Prop) (B_thrown : Int32) (B_buffer : Nat → Int32) (B_words : Nat → Int32) (B_serials : Nat → Int32) (B_lengths : Nat → Int32) (B_kinds : Nat → Int32) (B_owners : Nat → Int32) (B_olders : Nat → Int32) (B_links : Nat → Int32) (B_voids : Nat → Int32) (B_base : Int32) (B_count : Int32) (B_first : Int32) (B_forced : Int32) (B_end : Int32) (B_closed : Int32) (B_left : Int32) (B_begun : Int32) (B_begunLength : Int32) (k7_1 : Int32) : Nat → Int32 → Int32 → Prop
  | 0, _, _ => False
  | n7 + 1, y7_2, y7_3 =>
    ((B_count ≤ y7_3 → post y7_2) ∧ (¬ B_count ≤ y7_3 → vp_in y7_3 4400 ∧ ((((B_voids y7_3.toNatClampNeg) = (0 : Int32) → vp_in y7_3 4400 ∧ ((((B_owners y7_3.toNatClampNeg) = k7_1 → vp_in y7_3 4400 ∧ (wl_X1_latestOf_7 post B_thrown B_buffer B_words B_serials B_lengths B_kinds B_owners B_olders B_links B_voids B_base B_count B_first B_forced B_end B_closed B_left B_begun B_begunLength k7_1 n7 (B_serials y7_3.toNatClampNeg) (y7_3 + (1 : Int32)))) ∧ (¬ (B_owners y7_3.toNatClampNeg) = k7_1 → wl_X1_latestOf_7 post B_thrown B_buffer B_words B_serials B_lengths B_kinds B_owners B_olders B_links B_voids B_base B_count B_first B_forced B_end B_closed B_left B_begun B_begunLength k7_1 n7 y7_2 (y7_3 + (1 : Int32)))))) ∧ (¬ (B_voids y7_3.toNatClampNeg) = (0 : Int32) → wl_X1_latestOf_7 post B_thrown B_buffer B_words B_serials B_lengths B_kinds B_owners B_olders B_links B_voids B_base B_count B_first B_forced B_end B_closed B_left B_begun B_begunLength k7_1 n7 y7_2 (y7_3 + (1 : Int32)))))))
def wp_X1_latestOf (post : Int32 → Prop) (x1 : Int32) (B_thrown : Int32) (B_buffer : Nat → Int32) (B_words : Nat → Int32) (B_serials : Nat → Int32) (B_lengths : Nat → Int32) (B_kinds : Nat → Int32) (B_owners : Nat → Int32) (B_olders : Nat → Int32) (B_links : Nat → Int32) (B_voids : Nat → Int32) (B_base : Int32) (B_count : Int32) (B_first : Int32) (B_forced : Int32) (B_end : Int32) (B_closed : Int32) (B_left : Int32) (B_begun : Int32) (B_begunLength : Int32) : Prop :=
  ∃ n, wl_X1_latestOf_7 post B_thrown B_buffer B_words B_serials B_lengths B_kinds B_owners B_olders B_links B_voids B_base B_count B_first B_forced B_end B_closed B_left B_begun B_begunLength x1 n (-1 : Int32) B_base
set_option maxHeartbeats 4000000 in
set_option maxRecDepth 100000 in
theorem met_X1_latestOf (l : Launch) (dC : Nat → ClassId) (dI : Nat → Nat → Nat) (qB qB_buffer qB_words qB_serials qB_lengths qB_kinds qB_owners qB_olders qB_links qB_voids : Nat) (cB_buffer cB_words cB_serials cB_lengths cB_kinds cB_owners cB_olders cB_links cB_voids : ClassId) (B_thrown : Int32) (B_buffer : Nat → Int32) (B_words : Nat → Int32) (B_serials : Nat → Int32) (B_lengths : Nat → Int32) (B_kinds : Nat → Int32) (B_owners : Nat → Int32) (B_olders : Nat → Int32) (B_links : Nat → Int32) (B_voids : Nat → Int32) (B_base : Int32) (B_count : Int32) (B_first : Int32) (B_forced : Int32) (B_end : Int32) (B_closed : Int32) (B_left : Int32) (B_begun : Int32) (B_begunLength : Int32) (x1 : Int32) (post : Int32 → Prop) (hw : wp_X1_latestOf post x1 B_thrown B_buffer B_words B_serials B_lengths B_kinds B_owners B_olders B_links B_voids B_base B_count B_first B_forced B_end B_closed B_left B_begun B_begunLength) :
    Met l yX1_latestOf wsX1_latestOf ({ frames := 0, cells := 0, slots := 0, locals := 0 } : Room) (pcR_B dC dI qB qB_buffer qB_words qB_serials qB_lengths qB_kinds qB_owners qB_olders qB_links qB_voids cB_buffer cB_words cB_serials cB_lengths cB_kinds cB_owners cB_olders cB_links cB_voids B_thrown B_buffer B_words B_serials B_lengths B_kinds B_owners B_olders B_links B_voids B_base B_count B_first B_forced B_end B_closed B_left B_begun B_begunLength [.ref qB, .int x1]) (vp_Si post) 0 0 (fun _ => False) := by
  refine Met.ofW (cc := cX1_latestOf) (maxL := 4) (ret := (some .int)) (by decide) rfl ?_
  intro p e s m args below meth c s₁ B hml hv
  obtain ⟨hav, hP, hK⟩ := hv
  have hx := B.exec
  have hb := B.bytes
  have hr := B.returns
  have hts := atoms_spec (ws := wsX1_latestOf) B.pre
  have hbg : ∀ w ∈ bigW, w.before args s = true := fun w h => hts w (List.mem_cons_of_mem _ h)
  have hown : s.vm.findClass RX1 = some m.cls := findClass_of_methodNamed B.named
  have hlocks := B.notSynchronized
  have hP : va_P (dC, dI) vwCl [(qB, .inr (1, [.int B_thrown, .ref qB_buffer, .ref qB_words, .ref qB_serials, .ref qB_lengths, .ref qB_kinds, .ref qB_owners, .ref qB_olders, .ref qB_links, .ref qB_voids, .int B_base, .int B_count, .int B_first, .int B_forced, .int B_end, .int B_closed, .int B_left, .int B_begun, .int B_begunLength])), (qB_buffer, .inl (cB_buffer, 200, .inl B_buffer)), (qB_words, .inl (cB_words, 65536, .inl B_words)), (qB_serials, .inl (cB_serials, 4400, .inl B_serials)), (qB_lengths, .inl (cB_lengths, 4400, .inl B_lengths)), (qB_kinds, .inl (cB_kinds, 4400, .inl B_kinds)), (qB_owners, .inl (cB_owners, 4400, .inl B_owners)), (qB_olders, .inl (cB_olders, 4400, .inl B_olders)), (qB_links, .inl (cB_links, 4400, .inl B_links)), (qB_voids, .inl (cB_voids, 4400, .inl B_voids))] s.heap := hP
  generalize hQQ : MQ below (vp_Si post) args s 0 0 (fun _ => False) = QQ
  have hl := lv_entry ([.ref qB, .int x1]) (n := 4) (Nat.le_of_ble_eq_true rfl)
  rw [show entryFrame m args 4 = entryFrame m ([.ref qB, .int x1] : List Value).toArray 4 by rw [hav], lg_entry_eq]
  generalize (lg_sl ([.ref qB, .int x1]) ++ List.replicate (4 - (lg_sl ([.ref qB, .int x1])).length) Slot.unset).toArray = ls at hl ⊢
  have hl : lv_has ls 4 [(0, .ref qB), (1, .int x1)] := hl
  unfold wp_X1_latestOf at hw
  have hL7 : ∀ (n7 : Nat) (k7_1 : Int32) (y7_2 : Int32) (y7_3 : Int32), wl_X1_latestOf_7 post B_thrown B_buffer B_words B_serials B_lengths B_kinds B_owners B_olders B_links B_voids B_base B_count B_first B_forced B_end B_closed B_left B_begun B_begunLength k7_1 n7 y7_2 y7_3 → ∀ ls : Array Slot, lv_has ls 4 [(0, .ref qB), (1, .int k7_1), (2, .int y7_2), (3, .int y7_3)] → W p l e (headSpec wsX1_latestOf ({ frames := 0, cells := 0, slots := 0, locals := 0 } : Room)).room s m args below meth c s.heap [] 0 0 QQ (F0 m 7 ls []) := by
    intro n7
    induction n7 with
    | zero => intro k7_1 y7_2 y7_3 hw; exact False.elim hw
    | succ n7 ih7 =>
      intro k7_1 y7_2 y7_3 hw ls hl
      rw [wl_X1_latestOf_7] at hw
      refine lv_iload_n hx hb dX1_latestOf_7 rfl (lv_at hl 3 rfl) ?_
      refine lv_aload_n hx hb dX1_latestOf_8 rfl (lv_at hl 0 rfl) ?_
      refine va_get (D := (dC, dI)) (ci := 1) (v := .int B_count) (C := RX1) (T := TX1) (N := 19) hx hb hbg in_X1 hown hK hP 0 rfl rfl 11 (by decide) (hbg _ kw_66) (fun _ h9 => h9) rfl dX1_latestOf_9 ?_
      refine lv_icmp_ge (tgt := 51) hx hb dX1_latestOf_12 (by decide) (fun c9 => ?_) (fun c9 => ?_)
      · have hw := hw.1 c9
        refine lv_iload_n hx hb dX1_latestOf_51 rfl (lv_at hl 2 rfl) ?_
        subst hQQ
        exact W.iret (v := y7_2) hx hb hr (fun t ht _ => ⟨y7_2, rfl, hw, ht⟩) (by simp) dX1_latestOf_52
      · have hw := hw.2 c9
        refine lv_aload_n hx hb dX1_latestOf_15 rfl (lv_at hl 0 rfl) ?_
        refine va_get (D := (dC, dI)) (ci := 1) (v := .ref qB_voids) (C := RX1) (T := TX1) (N := 19) hx hb hbg in_X1 hown hK hP 0 rfl rfl 9 (by decide) (hbg _ kw_68) (fun _ h9 => h9) rfl dX1_latestOf_16 ?_
        refine lv_iload_n hx hb dX1_latestOf_19 rfl (lv_at hl 3 rfl) ?_
        obtain ⟨h_1, hw⟩ := hw
        refine va_zald hx hb hK hP 9 8 rfl rfl h_1 dX1_latestOf_20 ?_
        refine lv_if_ne (tgt := 43) hx hb dX1_latestOf_21 (by decide) (fun c9 => ?_) (fun c9 => ?_)
        · have hw := hw.2 c9
          refine lv_iload_n hx hb dX1_latestOf_43 rfl (lv_at hl 2 rfl) ?_
          refine lv_istore_n (lv' := [(2, .int y7_2), (0, .ref qB), (1, .int k7_1), (3, .int y7_3)]) hx hb dX1_latestOf_44 rfl hl (by decide) rfl (fun ls hl => ?_)
          refine lv_iinc (v := y7_3 + (1 : Int32)) (lv' := [(3, .int (y7_3 + (1 : Int32))), (2, .int y7_2), (0, .ref qB), (1, .int k7_1)]) hx hb dX1_latestOf_45 hl (k := 3) rfl rfl (by decide) rfl (fun ls hl => ?_)
          refine lv_goto (tgt := 7) hx hb dX1_latestOf_48 (by decide) ?_
          exact ih7 k7_1 y7_2 (y7_3 + (1 : Int32)) hw ls (lv_sub hl [2, 3, 1, 0] rfl)
        · have hw := hw.1 c9
          refine lv_aload_n hx hb dX1_latestOf_24 rfl (lv_at hl 0 rfl) ?_
          refine va_get (D := (dC, dI)) (ci := 1) (v := .ref qB_owners) (C := RX1) (T := TX1) (N := 19) hx hb hbg in_X1 hown hK hP 0 rfl rfl 6 (by decide) (hbg _ kw_69) (fun _ h9 => h9) rfl dX1_latestOf_25 ?_
          refine lv_iload_n hx hb dX1_latestOf_28 rfl (lv_at hl 3 rfl) ?_
          obtain ⟨h_2, hw⟩ := hw
          refine va_iald hx hb hK hP 6 5 rfl rfl h_2 dX1_latestOf_29 ?_
          refine lv_iload_n hx hb dX1_latestOf_30 rfl (lv_at hl 1 rfl) ?_
          refine lv_icmp_ne (tgt := 43) hx hb dX1_latestOf_31 (by decide) (fun c9 => ?_) (fun c9 => ?_)
          · have hw := hw.2 c9
            refine lv_iload_n hx hb dX1_latestOf_43 rfl (lv_at hl 2 rfl) ?_
            refine lv_istore_n (lv' := [(2, .int y7_2), (0, .ref qB), (1, .int k7_1), (3, .int y7_3)]) hx hb dX1_latestOf_44 rfl hl (by decide) rfl (fun ls hl => ?_)
            refine lv_iinc (v := y7_3 + (1 : Int32)) (lv' := [(3, .int (y7_3 + (1 : Int32))), (2, .int y7_2), (0, .ref qB), (1, .int k7_1)]) hx hb dX1_latestOf_45 hl (k := 3) rfl rfl (by decide) rfl (fun ls hl => ?_)
            refine lv_goto (tgt := 7) hx hb dX1_latestOf_48 (by decide) ?_
            exact ih7 k7_1 y7_2 (y7_3 + (1 : Int32)) hw ls (lv_sub hl [2, 3, 1, 0] rfl)
          · have hw := hw.1 c9
            refine lv_aload_n hx hb dX1_latestOf_34 rfl (lv_at hl 0 rfl) ?_
            refine va_get (D := (dC, dI)) (ci := 1) (v := .ref qB_serials) (C := RX1) (T := TX1) (N := 19) hx hb hbg in_X1 hown hK hP 0 rfl rfl 3 (by decide) (hbg _ kw_67) (fun _ h9 => h9) rfl dX1_latestOf_35 ?_
            refine lv_iload_n hx hb dX1_latestOf_38 rfl (lv_at hl 3 rfl) ?_
            obtain ⟨h_3, hw⟩ := hw
            refine va_iald hx hb hK hP 3 2 rfl rfl h_3 dX1_latestOf_39 ?_
            refine lv_goto (tgt := 44) hx hb dX1_latestOf_40 (by decide) ?_
            refine lv_istore_n (lv' := [(2, .int (B_serials y7_3.toNatClampNeg)), (0, .ref qB), (1, .int k7_1), (3, .int y7_3)]) hx hb dX1_latestOf_44 rfl hl (by decide) rfl (fun ls hl => ?_)
            refine lv_iinc (v := y7_3 + (1 : Int32)) (lv' := [(3, .int (y7_3 + (1 : Int32))), (2, .int (B_serials y7_3.toNatClampNeg)), (0, .ref qB), (1, .int k7_1)]) hx hb dX1_latestOf_45 hl (k := 3) rfl rfl (by decide) rfl (fun ls hl => ?_)
            refine lv_goto (tgt := 7) hx hb dX1_latestOf_48 (by decide) ?_
            exact ih7 k7_1 (B_serials y7_3.toNatClampNeg) (y7_3 + (1 : Int32)) hw ls (lv_sub hl [2, 3, 1, 0] rfl)
  refine lv_iconst (v := (-1 : Int32)) hx hb dX1_latestOf_0 (by decide) ?_
  refine lv_istore_n (lv' := [(2, .int (-1 : Int32)), (0, .ref qB), (1, .int x1)]) hx hb dX1_latestOf_1 rfl hl (by decide) rfl (fun ls hl => ?_)
  refine lv_aload_n hx hb dX1_latestOf_2 rfl (lv_at hl 1 rfl) ?_
  refine va_get (D := (dC, dI)) (ci := 1) (v := .int B_base) (C := RX1) (T := TX1) (N := 19) hx hb hbg in_X1 hown hK hP 0 rfl rfl 10 (by decide) (hbg _ kw_65) (fun _ h9 => h9) rfl dX1_latestOf_3 ?_
  refine lv_istore_n (lv' := [(3, .int B_base), (2, .int (-1 : Int32)), (0, .ref qB), (1, .int x1)]) hx hb dX1_latestOf_6 rfl hl (by decide) rfl (fun ls hl => ?_)
  obtain ⟨n9, hw⟩ := hw
  exact hL7 n9 x1 (-1 : Int32) B_base hw ls (lv_sub hl [2, 3, 1, 0] rfl)
