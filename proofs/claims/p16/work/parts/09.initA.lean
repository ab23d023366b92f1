set_option maxHeartbeats 4000000 in
set_option maxRecDepth 100000 in
theorem met_X0_init (l : Launch) (dC : Nat → ClassId) (dI : Nat → Nat → Nat) (qA : Nat) (sz : Nat) :
    Met l yX0_init wsX0_init ({ frames := 1, cells := 2, slots := 65736, locals := 24 } : Room) (va_Pc [.ref qA] (fun U => U.heap.size = sz ∧ va_P (dC, dI) vwCl [(qA, .inr (0, [.null, .null, .int 0, .int 0, .int 0, .int 0, .int 0]))] U.heap ∧ va_K (dC, dI) vwCl [] U ∧ va_D (fun _ => True) [(qA, .inr (0, [.null, .null, .int 0, .int 0, .int 0, .int 0, .int 0]))])) (va_Qv (fun _ : Unit => True) (fun _ t => ∃ (qA_ring qA_buffer : Nat) (cA_ring cA_buffer : ClassId), at_A dC dI (va_A [(qA, .inr (0, [.null, .null, .int 0, .int 0, .int 0, .int 0, .int 0]))] sz) qA qA_ring qA_buffer cA_ring cA_buffer ((fun _ => 0), (fun _ => 0), (0 : Int32), (0 : Int32), (0 : Int32), (-1 : Int32), (1 : Int32)) t) (va_A [(qA, .inr (0, [.null, .null, .int 0, .int 0, .int 0, .int 0, .int 0]))] sz)) 2 65736 (va_A [(qA, .inr (0, [.null, .null, .int 0, .int 0, .int 0, .int 0, .int 0]))] sz) := by
  refine Met.ofW (cc := cX0_init) (maxL := 1) (ret := none) (by decide) rfl ?_
  intro p e s m args below meth c s₁ B hml hv
  obtain ⟨hav, hsz, hP, hK, hD0⟩ := hv
  have hx := B.exec
  have hb := B.bytes
  have hr := B.returns
  have hts := atoms_spec (ws := wsX0_init) B.pre
  have hbg : ∀ w ∈ bigW, w.before args s = true := fun w h => hts w (List.mem_cons_of_mem _ h)
  have hown : s.vm.findClass RX0 = some m.cls := findClass_of_methodNamed B.named
  have hlocks := B.notSynchronized
  have hin : meth.name = "<init>" := (name_of_methodNamed B.named B.method).1
  subst hsz
  have hD := hD0.self (sz := s.heap.size)
  generalize hAe : va_A [(qA, .inr (0, [.null, .null, .int 0, .int 0, .int 0, .int 0, .int 0]))] s.heap.size = A at hD ⊢
  have hA : ∀ q : Nat, s.heap.size ≤ q → A q := fun q h => by rw [← hAe]; exact Or.inr h
  have hS : va_S A s.heap s.heap [] := va_S.rf
  have hl := lv_entry ([.ref qA]) (n := 1) (Nat.le_of_ble_eq_true rfl)
  rw [show entryFrame m args 1 = entryFrame m ([.ref qA] : List Value).toArray 1 by rw [hav], lg_entry_eq]
  generalize (lg_sl ([.ref qA]) ++ List.replicate (1 - (lg_sl ([.ref qA])).length) Slot.unset).toArray = ls at hl ⊢
  have hl : lv_has ls 1 [(0, .ref qA)] := hl
  refine lv_aload_n hx hb dX0_init_0 rfl (lv_at hl 0 rfl) ?_
  refine W.objInit hx hb hown (hbg _ kw_100) (hbg _ kw_101) (hbg _ kw_102) rfl (by rw [hml]; exact hl.1) rfl dX0_init_1 (Nat.le_of_ble_eq_true rfl) (Nat.le_of_ble_eq_true rfl) ?_
  refine W.eq (g2 := F0 m 4 ls []) rfl ?_
  refine lv_aload_n hx hb dX0_init_4 rfl (lv_at hl 0 rfl) ?_
  refine lv_ldc (v := (65536 : Int32)) hx hb hown (hbg _ kw_55) dX0_init_5 ?_
  refine va_newa (atype := .int) hx hb (hbg _ kw_103) (ty := .int) rfl hK hP hD hS hA (N' := 65536) (a0 := (65536, .inl (fun _ => 0))) (fun _ => rfl) (by decide) (by decide) (by decide) (Nat.le_of_ble_eq_true rfl) (Nat.le_of_ble_eq_true rfl) dX0_init_7 (fun q1 cq1 H7 hK hP hD hS => ?_)
  have hP : va_P (dC, dI) vwCl [(qA, .inr (0, [.null, .null, .int 0, .int 0, .int 0, .int 0, .int 0])), (q1, .inl (cq1, 65536, .inl (fun _ => 0)))] H7 := hP
  have hD : va_D A [(qA, .inr (0, [.null, .null, .int 0, .int 0, .int 0, .int 0, .int 0])), (q1, .inl (cq1, 65536, .inl (fun _ => 0)))] := hD
  have hK : va_K (dC, dI) vwCl [(cq1, .int)] s := hK
  refine W.widen (k := 1) (n := 65536) (Nat.le_of_ble_eq_true rfl) (Nat.le_of_ble_eq_true rfl) ?_
  refine va_putF (D := (dC, dI)) (ci := 0) (v := .ref q1) (ty := (.array .int)) (C := RX0) (T := TX0) (N := 7) hx hb hbg in_X0 tyX0 tyX0_ok nmX0 hown hK hP hD hS 0 rfl rfl 0 (by decide) (hbg _ kw_0) (fun _ h9 => h9) rfl hin rfl (by decide +kernel) rfl rfl (Nat.le_of_ble_eq_true rfl) dX0_init_9 (fun H9 locs hP hD hS => ?_)
  have hP : va_P (dC, dI) vwCl [(qA, .inr (0, [.ref q1, .null, .int 0, .int 0, .int 0, .int 0, .int 0])), (q1, .inl (cq1, 65536, .inl (fun _ => 0)))] H9 := hP
  have hD : va_D A [(qA, .inr (0, [.ref q1, .null, .int 0, .int 0, .int 0, .int 0, .int 0])), (q1, .inl (cq1, 65536, .inl (fun _ => 0)))] := hD
  refine lv_aload_n hx hb dX0_init_12 rfl (lv_at hl 0 rfl) ?_
  refine lv_sipush (v := (200 : Int32)) hx hb dX0_init_13 (by decide) ?_
  refine va_newa (atype := .int) hx hb (hbg _ kw_103) (ty := .int) rfl hK hP hD hS hA (N' := 200) (a0 := (200, .inl (fun _ => 0))) (fun _ => rfl) (by decide) (by decide) (by decide) (Nat.le_of_ble_eq_true rfl) (Nat.le_of_ble_eq_true rfl) dX0_init_16 (fun q3 cq3 H16 hK hP hD hS => ?_)
  have hP : va_P (dC, dI) vwCl [(qA, .inr (0, [.ref q1, .null, .int 0, .int 0, .int 0, .int 0, .int 0])), (q1, .inl (cq1, 65536, .inl (fun _ => 0))), (q3, .inl (cq3, 200, .inl (fun _ => 0)))] H16 := hP
  have hD : va_D A [(qA, .inr (0, [.ref q1, .null, .int 0, .int 0, .int 0, .int 0, .int 0])), (q1, .inl (cq1, 65536, .inl (fun _ => 0))), (q3, .inl (cq3, 200, .inl (fun _ => 0)))] := hD
  have hK : va_K (dC, dI) vwCl [(cq1, .int), (cq3, .int)] s := hK
  refine W.widen (k := 2) (n := 65736) (Nat.le_of_ble_eq_true rfl) (Nat.le_of_ble_eq_true rfl) ?_
  refine va_putF (D := (dC, dI)) (ci := 0) (v := .ref q3) (ty := (.array .int)) (C := RX0) (T := TX0) (N := 7) hx hb hbg in_X0 tyX0 tyX0_ok nmX0 hown hK hP hD hS 0 rfl rfl 1 (by decide) (hbg _ kw_37) (fun _ h9 => h9) rfl hin rfl (by decide +kernel) rfl rfl (Nat.le_of_ble_eq_true rfl) dX0_init_18 (fun H18 locs hP hD hS => ?_)
  have hP : va_P (dC, dI) vwCl [(qA, .inr (0, [.ref q1, .ref q3, .int 0, .int 0, .int 0, .int 0, .int 0])), (q1, .inl (cq1, 65536, .inl (fun _ => 0))), (q3, .inl (cq3, 200, .inl (fun _ => 0)))] H18 := hP
  have hD : va_D A [(qA, .inr (0, [.ref q1, .ref q3, .int 0, .int 0, .int 0, .int 0, .int 0])), (q1, .inl (cq1, 65536, .inl (fun _ => 0))), (q3, .inl (cq3, 200, .inl (fun _ => 0)))] := hD
  refine lv_aload_n hx hb dX0_init_21 rfl (lv_at hl 0 rfl) ?_
  refine lv_iconst (v := (0 : Int32)) hx hb dX0_init_22 (by decide) ?_
  refine va_put (D := (dC, dI)) (ci := 0) (v := .int (0 : Int32)) (ty := .int) (C := RX0) (T := TX0) (N := 7) hx hb hbg in_X0 tyX0 tyX0_ok nmX0 hown hK hP hD hS 0 rfl rfl 2 (by decide) (hbg _ kw_2) (fun _ h9 => h9) rfl (by decide +kernel) rfl rfl (Nat.le_of_ble_eq_true rfl) dX0_init_23 (fun H23 locs hP hD hS => ?_)
  have hP : va_P (dC, dI) vwCl [(qA, .inr (0, [.ref q1, .ref q3, .int (0 : Int32), .int 0, .int 0, .int 0, .int 0])), (q1, .inl (cq1, 65536, .inl (fun _ => 0))), (q3, .inl (cq3, 200, .inl (fun _ => 0)))] H23 := hP
  have hD : va_D A [(qA, .inr (0, [.ref q1, .ref q3, .int (0 : Int32), .int 0, .int 0, .int 0, .int 0])), (q1, .inl (cq1, 65536, .inl (fun _ => 0))), (q3, .inl (cq3, 200, .inl (fun _ => 0)))] := hD
  refine lv_aload_n hx hb dX0_init_26 rfl (lv_at hl 0 rfl) ?_
  refine lv_iconst (v := (0 : Int32)) hx hb dX0_init_27 (by decide) ?_
  refine va_put (D := (dC, dI)) (ci := 0) (v := .int (0 : Int32)) (ty := .int) (C := RX0) (T := TX0) (N := 7) hx hb hbg in_X0 tyX0 tyX0_ok nmX0 hown hK hP hD hS 0 rfl rfl 3 (by decide) (hbg _ kw_104) (fun _ h9 => h9) rfl (by decide +kernel) rfl rfl (Nat.le_of_ble_eq_true rfl) dX0_init_28 (fun H28 locs hP hD hS => ?_)
  have hP : va_P (dC, dI) vwCl [(qA, .inr (0, [.ref q1, .ref q3, .int (0 : Int32), .int (0 : Int32), .int 0, .int 0, .int 0])), (q1, .inl (cq1, 65536, .inl (fun _ => 0))), (q3, .inl (cq3, 200, .inl (fun _ => 0)))] H28 := hP
  have hD : va_D A [(qA, .inr (0, [.ref q1, .ref q3, .int (0 : Int32), .int (0 : Int32), .int 0, .int 0, .int 0])), (q1, .inl (cq1, 65536, .inl (fun _ => 0))), (q3, .inl (cq3, 200, .inl (fun _ => 0)))] := hD
  refine lv_aload_n hx hb dX0_init_31 rfl (lv_at hl 0 rfl) ?_
  refine lv_iconst (v := (0 : Int32)) hx hb dX0_init_32 (by decide) ?_
  refine va_put (D := (dC, dI)) (ci := 0) (v := .int (0 : Int32)) (ty := .int) (C := RX0) (T := TX0) (N := 7) hx hb hbg in_X0 tyX0 tyX0_ok nmX0 hown hK hP hD hS 0 rfl rfl 4 (by decide) (hbg _ kw_12) (fun _ h9 => h9) rfl (by decide +kernel) rfl rfl (Nat.le_of_ble_eq_true rfl) dX0_init_33 (fun H33 locs hP hD hS => ?_)
  have hP : va_P (dC, dI) vwCl [(qA, .inr (0, [.ref q1, .ref q3, .int (0 : Int32), .int (0 : Int32), .int (0 : Int32), .int 0, .int 0])), (q1, .inl (cq1, 65536, .inl (fun _ => 0))), (q3, .inl (cq3, 200, .inl (fun _ => 0)))] H33 := hP
  have hD : va_D A [(qA, .inr (0, [.ref q1, .ref q3, .int (0 : Int32), .int (0 : Int32), .int (0 : Int32), .int 0, .int 0])), (q1, .inl (cq1, 65536, .inl (fun _ => 0))), (q3, .inl (cq3, 200, .inl (fun _ => 0)))] := hD
  refine lv_aload_n hx hb dX0_init_36 rfl (lv_at hl 0 rfl) ?_
  refine lv_iconst (v := (-1 : Int32)) hx hb dX0_init_37 (by decide) ?_
  refine va_put (D := (dC, dI)) (ci := 0) (v := .int (-1 : Int32)) (ty := .int) (C := RX0) (T := TX0) (N := 7) hx hb hbg in_X0 tyX0 tyX0_ok nmX0 hown hK hP hD hS 0 rfl rfl 5 (by decide) (hbg _ kw_105) (fun _ h9 => h9) rfl (by decide +kernel) rfl rfl (Nat.le_of_ble_eq_true rfl) dX0_init_38 (fun H38 locs hP hD hS => ?_)
  have hP : va_P (dC, dI) vwCl [(qA, .inr (0, [.ref q1, .ref q3, .int (0 : Int32), .int (0 : Int32), .int (0 : Int32), .int (-1 : Int32), .int 0])), (q1, .inl (cq1, 65536, .inl (fun _ => 0))), (q3, .inl (cq3, 200, .inl (fun _ => 0)))] H38 := hP
  have hD : va_D A [(qA, .inr (0, [.ref q1, .ref q3, .int (0 : Int32), .int (0 : Int32), .int (0 : Int32), .int (-1 : Int32), .int 0])), (q1, .inl (cq1, 65536, .inl (fun _ => 0))), (q3, .inl (cq3, 200, .inl (fun _ => 0)))] := hD
  refine lv_aload_n hx hb dX0_init_41 rfl (lv_at hl 0 rfl) ?_
  refine lv_iconst (v := (1 : Int32)) hx hb dX0_init_42 (by decide) ?_
  refine va_put (D := (dC, dI)) (ci := 0) (v := .int (1 : Int32)) (ty := .boolean) (C := RX0) (T := TX0) (N := 7) hx hb hbg in_X0 tyX0 tyX0_ok nmX0 hown hK hP hD hS 0 rfl rfl 6 (by decide) (hbg _ kw_42) (fun _ h9 => h9) rfl (by decide +kernel) rfl rfl (Nat.le_of_ble_eq_true rfl) dX0_init_43 (fun H43 locs hP hD hS => ?_)
  have hP : va_P (dC, dI) vwCl [(qA, .inr (0, [.ref q1, .ref q3, .int (0 : Int32), .int (0 : Int32), .int (0 : Int32), .int (-1 : Int32), .int (1 : Int32)])), (q1, .inl (cq1, 65536, .inl (fun _ => 0))), (q3, .inl (cq3, 200, .inl (fun _ => 0)))] H43 := hP
  have hD : va_D A [(qA, .inr (0, [.ref q1, .ref q3, .int (0 : Int32), .int (0 : Int32), .int (0 : Int32), .int (-1 : Int32), .int (1 : Int32)])), (q1, .inl (cq1, 65536, .inl (fun _ => 0))), (q3, .inl (cq3, 200, .inl (fun _ => 0)))] := hD
  have hP9 := hP.sub (ws' := [(qA, .inr (0, [.ref q1, .ref q3, .int (0 : Int32), .int (0 : Int32), .int (0 : Int32), .int (-1 : Int32), .int (1 : Int32)])), (q1, .inl (cq1, 65536, .inl (fun _ => 0))), (q3, .inl (cq3, 200, .inl (fun _ => 0)))]) [0, 1, 2] rfl
  have hD9 := hD.sub (ws' := [(qA, .inr (0, [.ref q1, .ref q3, .int (0 : Int32), .int (0 : Int32), .int (0 : Int32), .int (-1 : Int32), .int (1 : Int32)])), (q1, .inl (cq1, 65536, .inl (fun _ => 0))), (q3, .inl (cq3, 200, .inl (fun _ => 0)))]) [0, 1, 2] (by decide) rfl
  have hK9 := hK.sub (tys' := [(cq1, .int), (cq3, .int)]) [0, 1] rfl
  exact W.vret hx hb hr (fun t ht hW => ⟨⟨(), rfl, trivial, q1, q3, cq1, cq3, by rw [ht]; exact hP9, va_K.moved hW.alike hK9, hD9⟩, hS.F ht⟩) hS.2.2 dX0_init_46
