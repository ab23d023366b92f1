theorem whole_start {p : Program} {e : Env} {s : State} {m : MethodId} {below : List Frame} {meth : Method} {c : Code} (l : Launch) (hl9 : l.stackTraces = false) {b : Nat} (C0 : lw_At p s m meth c b rf_l.length (fun j => rf_l.getD j 0)) : W p l e room_1 s m #[Value.ref b] below meth c s.heap [] 0 0 (lw_Z below #[Value.ref b] s) (entryFrame m ([Value.ref b] : List Value).toArray 7) :=
  whole_start9 (L := 15) (xs := rf_x) l hl9 (by decide) rf_R rf_run rf_step rf_full C0
set_option maxHeartbeats 4000000 in
theorem lw_walk (l : Launch) (hl9 : l.stackTraces = false) (b : Addr) : MetFree l x (headSpec (Jvm.Cond.code x code maxLocals ret :: tables_1) room_1) (lw_P b rf_l) (fun _ _ _ _ _ => True) lw_Q := by
  refine MetFree.of_bodyS (code := code) (maxLocals := maxLocals) (ret := ret) (by decide) ?_ ?_
  · intro args s m h hn
    obtain ⟨meth, c, h1, h2, h3, h4, h5, h6, -, -⟩ := Cond.code_spec hn (atoms_spec (ws := Jvm.Cond.code x code maxLocals ret :: tables_1) h _ List.mem_cons_self)
    exact ⟨meth, c, h1, h2, h3, h4, h5, h6⟩
  · intro p e s m args below meth c s₁ B hml0 hP _
    obtain ⟨rfl, hx, hbd, hgv⟩ := hP
    obtain ⟨scr, harrAt, hlist, hof, hsmall⟩ := hx
    obtain ⟨hcb, hkn, -, -⟩ := State.arrayAt?_spec harrAt
    have hown : s.vm.findClass R_law = some m.cls := findClass_of_methodNamed B.named
    have hts0 : ∀ c ∈ (Jvm.Cond.code x code maxLocals ret :: tables_1), c.before #[Value.ref b] s = true := atoms_spec (ws := Jvm.Cond.code x code maxLocals ret :: tables_1) B.pre
    have hts : ∀ w ∈ lw_tbl, w.before #[Value.ref b] s = true := k2_hts_sels lw_privs (fun w hw => hts0 w (List.mem_cons_of_mem _ hw)) lw_privs_ok
    have hml : c.maxLocals = 7 := B.maxLocals_eq (hts0 _ List.mem_cons_self)
    have X₀ : Stand p l e room_1 s m #[Value.ref b] below meth c s₁ [] 0 0 := Stand.of_body B
    have hh0 : s₁.heap = s.heap := by rw [B.state]; rfl
    have hsz : scr.slots.size = rf_l.length := by rw [← Array.length_toList, hlist, List.length_map]
    have hval : ∀ j : Nat, j < rf_l.length → scr.slots[j]? = some (.int (rf_l.getD j 0)) := fun j hj => by
      rw [← Array.getElem?_toList, hlist]
      simp [hj]
    have hbl : b < s.heap.size := (Array.getElem?_eq_some_iff.mp hcb).1
    have hX : va_X b rf_l.length (fun j => rf_l.getD j 0) s s.heap := ⟨scr, hcb, hof, hkn, hsz, hval⟩
    have K : W p l e room_1 s m #[Value.ref b] below meth c s₁.heap [] 0 0 (lw_Z below #[Value.ref b] s) (entryFrame m ([Value.ref b] : List Value).toArray 7) := by
      rw [hh0]
      exact whole_start l hl9 ⟨B.exec, B.bytes, B.returns, hml, hown, hts, hX, hbl, B.notSynchronized, hgv⟩
    obtain ⟨t, a1, o, b1, b2, b3⟩ := K s₁ rfl X₀
    exact ⟨t, o, a1, b1, b2, b3⟩
/-- the statement's own refutation: at the script rf_l the law returns, and answers 0 -/
theorem rf_refuted : RefutedClaimed_1_2 := by
  obtain ⟨hL, hW, had, hle, hcas, hclk, hfr, hfit, hheap, happ, hcalls, hrest, hpre⟩ := rf_at
  have hP : lw_P 0 rf_l start1.args0 rf_s := ⟨rfl, rf_ints, by decide, hpre⟩
  obtain ⟨k, o, h1, h2, h3, hQ⟩ := lw_walk launch0 (by decide +kernel) 0 start1.p0 start1.e0 had hcas hclk rf_s ⟨0, 0⟩ start1.args0 Lib.HandBits.below0 hfr ((Spec.applies_iff_loose hfr).mp happ).1 hP trivial
  obtain ⟨rfl, hF⟩ := hQ
  refine ⟨launch0, start1.p0, start1.e0, rf_s, ⟨0, 0⟩, start1.args0, Lib.HandBits.below0, rfl, rf_at, k, _, h1, h2, h3, ?_⟩
  intro hp
  have h0 := Cond.after_iff.mp hp.1
  rw [show limb_1_2 = Cond.eq .result (.int 1) from rfl, Cond.eq_ints (x := 0) (y := 1) rfl rfl] at h0
  simp at h0
theorem rf_not : ¬ Claimed_1_2 := fun hA => by
  obtain ⟨l, p, e, s, m, args, below, hfl, ⟨hL, hW, had, _, hcas, hclk, hfr, hfit, hheap, happ, hcalls, hrest, hpre⟩, n, o, hin, _, hend, hnot⟩ := rf_refuted
  obtain ⟨k, q, hin9, _, hend9, hpost⟩ := hA l hfl hL hW p e had hcas hclk s m args below hfr hfit hheap happ ⟨hcalls, hrest, hpre⟩
  obtain ⟨rfl, rfl⟩ := the_end_unique (f := fun j => stepsAlone p.tables e j s) hin hend hin9 hend9
  exact hnot hpost
theorem rf_none : ¬ (Claimed_1_1 ∧ Claimed_1_2) := fun h => rf_not h.2
