def rf_s : State := start1.aboutOf #[.int 2, .int 0, .int 1, .int (-1), .int 0, .int 2, .int 0, .int 0, .int 0, .int 0, .int 14, .int 0, .int 1, .int 1, .int 0]
theorem rf_tabs : ((Cond.code x code maxLocals ret :: tables_1).all fun c => c.onTables || c.before start1.args0 rf_s) = true := by decide +kernel
theorem rf_words : ∀ c ∈ (Cond.code x code maxLocals ret :: tables_1), c.before start1.args0 rf_s = true := by
  intro c hc
  rcases Bool.or_eq_true_iff.mp (List.all_eq_true.mp rf_tabs c hc) with ht | ht
  case inr => exact ht
  have e := Cond.onTables_vm (A := start1.args0) (A' := start1.args0) (U := rf_s) (U' := start1.about) start1.about.vm c ht
  exact e.trans (start1.words c hc)
set_option maxRecDepth 16384 in
theorem rf_at : AtStart classFile x code maxLocals ret World_1 tables_1 room_1 Calls_1 rest_1 Pre_1 launch0 start1.p0 start1.e0 rf_s ⟨0, 0⟩ start1.args0 Lib.HandBits.below0 :=
  ⟨lists_1, trivial, launch0.admits_env _ _ _, launch0.least_env, fairChoices_fair.cas, fairChoices_fair.clock, rfl, by decide +kernel, by decide +kernel,
    (Spec.applies_iff rfl).mpr ⟨rfl, rfl, rfl, by decide +kernel, by decide +kernel, by decide +kernel, launch0.hasRoom_least _ room_1 (by decide +kernel) (by decide +kernel) (by decide +kernel) (by decide +kernel) (by decide +kernel) (by decide +kernel), atoms_intro rf_words⟩,
    trivial, (show rest_1_c.before start1.args0 rf_s = true by decide +kernel), (show (Cond.and given_1 narrow_1).before start1.args0 rf_s = true by decide +kernel)⟩
theorem rf_ints : rf_s.IntsAt 0 rf_l := ⟨{ cls := 14, slots := (rf_l.map Value.int).toArray, vm := .none }, rfl, by decide +kernel, ⟨(fun k h => nomatch h), start1.cArr "[I" 13 .int, rfl, 13, rfl⟩, by decide⟩
