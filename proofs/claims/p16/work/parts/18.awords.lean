theorem gIn {cd : Cond} (h5 : cd ∈ bigW) : GoodIn bigW (cd :: bigW) := fun w hw => by
  rcases List.mem_cons.mp hw with rfl | hw
  · exact ⟨h5, good_of_word (List.mem_filter.mp h5).2⟩
  · exact ⟨hw, good_of_word (List.mem_filter.mp hw).2⟩
theorem kw_120 : Cond.methodLink RL 94 yL_append ∈ bigW := big_in (List.mem_of_getElem? (i := 196) (by decide +kernel)) rfl
theorem kw_121 : Cond.static yL_append ∈ bigW := big_in (List.mem_of_getElem? (i := 197) (by decide +kernel)) rfl
theorem kw_122 : Cond.initialized RL ∈ bigW := big_in (List.mem_of_getElem? (i := 32) (by decide +kernel)) rfl
theorem kw_123 : Cond.codeWith yL_append cL_append 7 (some .int) [(0, 14, 17, 13), (0, 14, 21, 24)] ∈ bigW := big_in (List.mem_of_getElem? (i := 198) (by decide +kernel)) rfl
theorem kw_124 : Cond.methodLink RL 97 yX1_append ∈ bigW := big_in (List.mem_of_getElem? (i := 558) (by decide +kernel)) rfl
theorem kw_125 : Cond.instanceMethod yX1_append ∈ bigW := big_in (List.mem_of_getElem? (i := 559) (by decide +kernel)) rfl
theorem kw_126 : Cond.selects RX1 yX1_append yX1_append ∈ bigW := big_in (List.mem_of_getElem? (i := 560) (by decide +kernel)) rfl
theorem kw_127 : Cond.code yX1_append cX1_append 7 (some .int) ∈ bigW := big_in (List.mem_of_getElem? (i := 561) (by decide +kernel)) rfl
theorem kw_128 : Cond.methodLink RL 134 yL_back ∈ bigW := big_in (List.mem_of_getElem? (i := 390) (by decide +kernel)) rfl
theorem kw_129 : Cond.static yL_back ∈ bigW := big_in (List.mem_of_getElem? (i := 391) (by decide +kernel)) rfl
theorem kw_130 : Cond.codeWith yL_back cL_back 6 (some .int) [(0, 12, 15, 13), (0, 12, 19, 24)] ∈ bigW := big_in (List.mem_of_getElem? (i := 392) (by decide +kernel)) rfl
theorem kw_131 : Cond.methodLink RL 137 yX1_back ∈ bigW := big_in (List.mem_of_getElem? (i := 626) (by decide +kernel)) rfl
theorem kw_132 : Cond.instanceMethod yX1_back ∈ bigW := big_in (List.mem_of_getElem? (i := 627) (by decide +kernel)) rfl
theorem kw_133 : Cond.selects RX1 yX1_back yX1_back ∈ bigW := big_in (List.mem_of_getElem? (i := 628) (by decide +kernel)) rfl
theorem kw_134 : Cond.code yX1_back cX1_back 7 (some .int) ∈ bigW := big_in (List.mem_of_getElem? (i := 629) (by decide +kernel)) rfl
theorem kw_135 : Cond.methodLink RL 138 yX1_thrown ∈ bigW := big_in (List.mem_of_getElem? (i := 511) (by decide +kernel)) rfl
theorem kw_136 : Cond.instanceMethod yX1_thrown ∈ bigW := big_in (List.mem_of_getElem? (i := 512) (by decide +kernel)) rfl
theorem kw_137 : Cond.selects RX1 yX1_thrown yX1_thrown ∈ bigW := big_in (List.mem_of_getElem? (i := 513) (by decide +kernel)) rfl
theorem kw_138 : Cond.code yX1_thrown cX1_thrown 1 (some .int) ∈ bigW := big_in (List.mem_of_getElem? (i := 514) (by decide +kernel)) rfl
theorem kw_139 : Cond.instantiable RX0 7 ∈ bigW := big_in (List.mem_of_getElem? (i := 44) (by decide +kernel)) rfl
theorem kw_140 : Cond.instantiable RX1 19 ∈ bigW := big_in (List.mem_of_getElem? (i := 446) (by decide +kernel)) rfl
theorem kw_141 : Cond.classLink RL 8 RX0 ∈ bigW := big_in (List.mem_of_getElem? (i := 43) (by decide +kernel)) rfl
theorem kw_142 : Cond.code yX0_init cX0_init 1 none ∈ bigW := big_in (List.mem_of_getElem? (i := 47) (by decide +kernel)) rfl
theorem kw_143 : Cond.methodLink RL 81 yX0_init ∈ bigW := big_in (List.mem_of_getElem? (i := 45) (by decide +kernel)) rfl
theorem kw_144 : Cond.instanceMethod yX0_init ∈ bigW := big_in (List.mem_of_getElem? (i := 46) (by decide +kernel)) rfl
theorem kw_145 : Cond.classLink RL 82 RX1 ∈ bigW := big_in (List.mem_of_getElem? (i := 445) (by decide +kernel)) rfl
theorem kw_146 : Cond.code yX1_init cX1_init 1 none ∈ bigW := big_in (List.mem_of_getElem? (i := 449) (by decide +kernel)) rfl
theorem kw_147 : Cond.methodLink RL 84 yX1_init ∈ bigW := big_in (List.mem_of_getElem? (i := 447) (by decide +kernel)) rfl
theorem kw_148 : Cond.instanceMethod yX1_init ∈ bigW := big_in (List.mem_of_getElem? (i := 448) (by decide +kernel)) rfl
theorem kw_149 : Cond.arrayClass .long ∈ bigW := big_in (List.mem_of_getElem? (i := 638) (by decide +kernel)) rfl
theorem g_RL_94 : GoodIn bigW (va_wsS RL 94 yL_append wsL_append) := gS kw_120 kw_121 kw_122 kw_123
theorem g_RL_97 : GoodIn bigW (wsV RL 97 RX1 yX1_append wsX1_append) := gV kw_124 kw_125 kw_126 kw_73 kw_127
theorem g_RL_134 : GoodIn bigW (va_wsS RL 134 yL_back wsL_back) := gS kw_128 kw_129 kw_122 kw_130
theorem g_RL_137 : GoodIn bigW (wsV RL 137 RX1 yX1_back wsX1_back) := gV kw_131 kw_132 kw_133 kw_73 kw_134
theorem g_RL_138 : GoodIn bigW (wsV RL 138 RX1 yX1_thrown wsX1_thrown) := gV kw_135 kw_136 kw_137 kw_73 kw_138
theorem gI_X0_init : GoodIn bigW wsX0_init := gIn kw_142
theorem gI_X1_init : GoodIn bigW wsX1_init := gIn kw_146
