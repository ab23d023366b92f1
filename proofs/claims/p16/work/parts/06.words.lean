theorem kw_0 : Cond.fieldLink RX0 10 "LogBook" "ring" "[I" ∈ bigW := big_in (List.mem_of_getElem? (i := 52) (by decide +kernel)) rfl
theorem kw_1 : Cond.constant RX0 138 65535 ∈ bigW := big_in (List.mem_of_getElem? (i := 239) (by decide +kernel)) rfl
theorem kw_2 : Cond.fieldLink RX0 17 "LogBook" "firstPlace" "I" ∈ bigW := big_in (List.mem_of_getElem? (i := 54) (by decide +kernel)) rfl
theorem kw_3 : Cond.methodLink RX0 97 yX0_wordAt ∈ bigW := big_in (List.mem_of_getElem? (i := 235) (by decide +kernel)) rfl
theorem kw_4 : Cond.instanceMethod yX0_wordAt ∈ bigW := big_in (List.mem_of_getElem? (i := 237) (by decide +kernel)) rfl
theorem kw_5 : Cond.selects RX0 yX0_wordAt yX0_wordAt ∈ bigW := big_in (List.mem_of_getElem? (i := 7) (by decide +kernel)) rfl
theorem kw_6 : Cond.initialized RX0 ∈ bigW := big_in (List.mem_of_getElem? (i := 33) (by decide +kernel)) rfl
theorem kw_7 : Cond.code yX0_wordAt cX0_wordAt 2 (some .int) ∈ bigW := big_in (List.mem_of_getElem? (i := 238) (by decide +kernel)) rfl
theorem kw_8 : Cond.methodLink RX0 142 Lib.Math.abs.name ∈ bigW := big_in (List.mem_of_getElem? (i := 240) (by decide +kernel)) rfl
theorem kw_9 : Cond.static Lib.Math.abs.name ∈ bigW := big_in (List.mem_of_getElem? (i := 241) (by decide +kernel)) rfl
theorem kw_10 : Cond.initialized "java/lang/Math" ∈ bigW := big_in (List.mem_of_getElem? (i := 41) (by decide +kernel)) rfl
theorem kw_11 : Cond.code Lib.Math.abs.name Lib.Math.abs.code 1 (some .int) ∈ bigW := big_in (List.mem_of_getElem? (i := 242) (by decide +kernel)) rfl
theorem kw_12 : Cond.fieldLink RX0 24 "LogBook" "endPlace" "I" ∈ bigW := big_in (List.mem_of_getElem? (i := 56) (by decide +kernel)) rfl
theorem kw_13 : Cond.methodLink RX0 88 yX0_lastRecordBefore ∈ bigW := big_in (List.mem_of_getElem? (i := 231) (by decide +kernel)) rfl
theorem kw_14 : Cond.instanceMethod yX0_lastRecordBefore ∈ bigW := big_in (List.mem_of_getElem? (i := 233) (by decide +kernel)) rfl
theorem kw_15 : Cond.selects RX0 yX0_lastRecordBefore yX0_lastRecordBefore ∈ bigW := big_in (List.mem_of_getElem? (i := 6) (by decide +kernel)) rfl
theorem kw_16 : Cond.code yX0_lastRecordBefore cX0_lastRecordBefore 5 (some .int) ∈ bigW := big_in (List.mem_of_getElem? (i := 234) (by decide +kernel)) rfl
theorem kw_17 : Cond.methodLink RX0 94 yX0_ownerAt ∈ bigW := big_in (List.mem_of_getElem? (i := 243) (by decide +kernel)) rfl
theorem kw_18 : Cond.instanceMethod yX0_ownerAt ∈ bigW := big_in (List.mem_of_getElem? (i := 245) (by decide +kernel)) rfl
theorem kw_19 : Cond.selects RX0 yX0_ownerAt yX0_ownerAt ∈ bigW := big_in (List.mem_of_getElem? (i := 8) (by decide +kernel)) rfl
theorem kw_20 : Cond.code yX0_ownerAt cX0_ownerAt 2 (some .int) ∈ bigW := big_in (List.mem_of_getElem? (i := 246) (by decide +kernel)) rfl
theorem kw_21 : Cond.methodLink RX0 91 yX0_kindAt ∈ bigW := big_in (List.mem_of_getElem? (i := 373) (by decide +kernel)) rfl
theorem kw_22 : Cond.instanceMethod yX0_kindAt ∈ bigW := big_in (List.mem_of_getElem? (i := 375) (by decide +kernel)) rfl
theorem kw_23 : Cond.selects RX0 yX0_kindAt yX0_kindAt ∈ bigW := big_in (List.mem_of_getElem? (i := 17) (by decide +kernel)) rfl
theorem kw_24 : Cond.code yX0_kindAt cX0_kindAt 2 (some .int) ∈ bigW := big_in (List.mem_of_getElem? (i := 376) (by decide +kernel)) rfl
theorem kw_25 : Cond.methodLink RX0 61 yX0_lastRecordOf ∈ bigW := big_in (List.mem_of_getElem? (i := 227) (by decide +kernel)) rfl
theorem kw_26 : Cond.instanceMethod yX0_lastRecordOf ∈ bigW := big_in (List.mem_of_getElem? (i := 229) (by decide +kernel)) rfl
theorem kw_27 : Cond.selects RX0 yX0_lastRecordOf yX0_lastRecordOf ∈ bigW := big_in (List.mem_of_getElem? (i := 5) (by decide +kernel)) rfl
theorem kw_28 : Cond.code yX0_lastRecordOf cX0_lastRecordOf 4 (some .int) ∈ bigW := big_in (List.mem_of_getElem? (i := 230) (by decide +kernel)) rfl
theorem kw_29 : Cond.methodLink RX0 147 yX0_isAskedFor ∈ bigW := big_in (List.mem_of_getElem? (i := 402) (by decide +kernel)) rfl
theorem kw_30 : Cond.instanceMethod yX0_isAskedFor ∈ bigW := big_in (List.mem_of_getElem? (i := 404) (by decide +kernel)) rfl
theorem kw_31 : Cond.selects RX0 yX0_isAskedFor yX0_isAskedFor ∈ bigW := big_in (List.mem_of_getElem? (i := 20) (by decide +kernel)) rfl
theorem kw_32 : Cond.code yX0_isAskedFor cX0_isAskedFor 4 (some .boolean) ∈ bigW := big_in (List.mem_of_getElem? (i := 405) (by decide +kernel)) rfl
theorem kw_33 : Cond.methodLink RX0 151 yX0_stopBehind ∈ bigW := big_in (List.mem_of_getElem? (i := 406) (by decide +kernel)) rfl
theorem kw_34 : Cond.instanceMethod yX0_stopBehind ∈ bigW := big_in (List.mem_of_getElem? (i := 408) (by decide +kernel)) rfl
theorem kw_35 : Cond.selects RX0 yX0_stopBehind yX0_stopBehind ∈ bigW := big_in (List.mem_of_getElem? (i := 21) (by decide +kernel)) rfl
theorem kw_36 : Cond.code yX0_stopBehind cX0_stopBehind 3 (some .int) ∈ bigW := big_in (List.mem_of_getElem? (i := 409) (by decide +kernel)) rfl
theorem kw_37 : Cond.fieldLink RX0 14 "LogBook" "buffer" "[I" ∈ bigW := big_in (List.mem_of_getElem? (i := 53) (by decide +kernel)) rfl
theorem kw_38 : Cond.methodLink RX0 65 yX0_addWord ∈ bigW := big_in (List.mem_of_getElem? (i := 247) (by decide +kernel)) rfl
theorem kw_39 : Cond.instanceMethod yX0_addWord ∈ bigW := big_in (List.mem_of_getElem? (i := 249) (by decide +kernel)) rfl
theorem kw_40 : Cond.selects RX0 yX0_addWord yX0_addWord ∈ bigW := big_in (List.mem_of_getElem? (i := 9) (by decide +kernel)) rfl
theorem kw_41 : Cond.code yX0_addWord cX0_addWord 2 none ∈ bigW := big_in (List.mem_of_getElem? (i := 250) (by decide +kernel)) rfl
theorem kw_42 : Cond.fieldLink RX0 30 "LogBook" "opened" "Z" ∈ bigW := big_in (List.mem_of_getElem? (i := 58) (by decide +kernel)) rfl
theorem kw_43 : Cond.classLink RX0 80 "java/lang/IllegalStateException" ∈ bigW := big_in (List.mem_of_getElem? (i := 104) (by decide +kernel)) rfl
theorem kw_44 : Cond.initialized "java/lang/IllegalStateException" ∈ bigW := big_in (List.mem_of_getElem? (i := 38) (by decide +kernel)) rfl
theorem kw_45 : Cond.classLink RX0 52 "java/lang/IllegalArgumentException" ∈ bigW := big_in (List.mem_of_getElem? (i := 208) (by decide +kernel)) rfl
theorem kw_46 : Cond.initialized "java/lang/IllegalArgumentException" ∈ bigW := big_in (List.mem_of_getElem? (i := 40) (by decide +kernel)) rfl
theorem kw_47 : Cond.methodLink RX0 34 yX0_requireOpen ∈ bigW := big_in (List.mem_of_getElem? (i := 100) (by decide +kernel)) rfl
theorem kw_48 : Cond.instanceMethod yX0_requireOpen ∈ bigW := big_in (List.mem_of_getElem? (i := 102) (by decide +kernel)) rfl
theorem kw_49 : Cond.selects RX0 yX0_requireOpen yX0_requireOpen ∈ bigW := big_in (List.mem_of_getElem? (i := 2) (by decide +kernel)) rfl
theorem kw_50 : Cond.code yX0_requireOpen cX0_requireOpen 1 none ∈ bigW := big_in (List.mem_of_getElem? (i := 103) (by decide +kernel)) rfl
theorem kw_51 : Cond.methodLink RX0 48 yX0_requireOwner ∈ bigW := big_in (List.mem_of_getElem? (i := 204) (by decide +kernel)) rfl
theorem kw_52 : Cond.instanceMethod yX0_requireOwner ∈ bigW := big_in (List.mem_of_getElem? (i := 206) (by decide +kernel)) rfl
theorem kw_53 : Cond.selects RX0 yX0_requireOwner yX0_requireOwner ∈ bigW := big_in (List.mem_of_getElem? (i := 4) (by decide +kernel)) rfl
theorem kw_54 : Cond.code yX0_requireOwner cX0_requireOwner 2 none ∈ bigW := big_in (List.mem_of_getElem? (i := 207) (by decide +kernel)) rfl
theorem kw_55 : Cond.constant RX0 9 65536 ∈ bigW := big_in (List.mem_of_getElem? (i := 51) (by decide +kernel)) rfl
theorem kw_56 : Cond.methodLink RX0 68 yX0_addContent ∈ bigW := big_in (List.mem_of_getElem? (i := 251) (by decide +kernel)) rfl
theorem kw_57 : Cond.instanceMethod yX0_addContent ∈ bigW := big_in (List.mem_of_getElem? (i := 253) (by decide +kernel)) rfl
theorem kw_58 : Cond.selects RX0 yX0_addContent yX0_addContent ∈ bigW := big_in (List.mem_of_getElem? (i := 10) (by decide +kernel)) rfl
theorem kw_59 : Cond.code yX0_addContent cX0_addContent 3 none ∈ bigW := big_in (List.mem_of_getElem? (i := 254) (by decide +kernel)) rfl
theorem kw_60 : Cond.methodLink RX0 109 yX0_kthOnTheWay ∈ bigW := big_in (List.mem_of_getElem? (i := 398) (by decide +kernel)) rfl
theorem kw_61 : Cond.instanceMethod yX0_kthOnTheWay ∈ bigW := big_in (List.mem_of_getElem? (i := 400) (by decide +kernel)) rfl
theorem kw_62 : Cond.selects RX0 yX0_kthOnTheWay yX0_kthOnTheWay ∈ bigW := big_in (List.mem_of_getElem? (i := 19) (by decide +kernel)) rfl
theorem kw_63 : Cond.code yX0_kthOnTheWay cX0_kthOnTheWay 8 (some .int) ∈ bigW := big_in (List.mem_of_getElem? (i := 401) (by decide +kernel)) rfl
theorem kw_64 : Cond.fieldLink RX1 49 "LogBookModel" "thrown" "I" ∈ bigW := big_in (List.mem_of_getElem? (i := 452) (by decide +kernel)) rfl
theorem kw_65 : Cond.fieldLink RX1 52 "LogBookModel" "base" "I" ∈ bigW := big_in (List.mem_of_getElem? (i := 462) (by decide +kernel)) rfl
theorem kw_66 : Cond.fieldLink RX1 46 "LogBookModel" "count" "I" ∈ bigW := big_in (List.mem_of_getElem? (i := 463) (by decide +kernel)) rfl
theorem kw_67 : Cond.fieldLink RX1 17 "LogBookModel" "serials" "[I" ∈ bigW := big_in (List.mem_of_getElem? (i := 455) (by decide +kernel)) rfl
theorem kw_68 : Cond.fieldLink RX1 35 "LogBookModel" "voids" "[Z" ∈ bigW := big_in (List.mem_of_getElem? (i := 461) (by decide +kernel)) rfl
theorem kw_69 : Cond.fieldLink RX1 26 "LogBookModel" "owners" "[I" ∈ bigW := big_in (List.mem_of_getElem? (i := 458) (by decide +kernel)) rfl
theorem kw_70 : Cond.fieldLink RX1 20 "LogBookModel" "lengths" "[I" ∈ bigW := big_in (List.mem_of_getElem? (i := 456) (by decide +kernel)) rfl
theorem kw_71 : Cond.methodLink RX1 83 yX1_in ∈ bigW := big_in (List.mem_of_getElem? (i := 551) (by decide +kernel)) rfl
theorem kw_72 : Cond.static yX1_in ∈ bigW := big_in (List.mem_of_getElem? (i := 552) (by decide +kernel)) rfl
theorem kw_73 : Cond.initialized RX1 ∈ bigW := big_in (List.mem_of_getElem? (i := 34) (by decide +kernel)) rfl
theorem kw_74 : Cond.code yX1_in cX1_in 3 (some .boolean) ∈ bigW := big_in (List.mem_of_getElem? (i := 553) (by decide +kernel)) rfl
theorem kw_75 : Cond.fieldLink RX1 62 "LogBookModel" "end" "I" ∈ bigW := big_in (List.mem_of_getElem? (i := 466) (by decide +kernel)) rfl
theorem kw_76 : Cond.fieldLink RX1 55 "LogBookModel" "closed" "Z" ∈ bigW := big_in (List.mem_of_getElem? (i := 467) (by decide +kernel)) rfl
theorem kw_77 : Cond.methodLink RX1 75 yX1_refused ∈ bigW := big_in (List.mem_of_getElem? (i := 519) (by decide +kernel)) rfl
theorem kw_78 : Cond.instanceMethod yX1_refused ∈ bigW := big_in (List.mem_of_getElem? (i := 521) (by decide +kernel)) rfl
theorem kw_79 : Cond.selects RX1 yX1_refused yX1_refused ∈ bigW := big_in (List.mem_of_getElem? (i := 23) (by decide +kernel)) rfl
theorem kw_80 : Cond.code yX1_refused cX1_refused 4 (some .boolean) ∈ bigW := big_in (List.mem_of_getElem? (i := 522) (by decide +kernel)) rfl
theorem kw_81 : Cond.fieldLink RX1 87 "LogBookModel" "first" "I" ∈ bigW := big_in (List.mem_of_getElem? (i := 464) (by decide +kernel)) rfl
theorem kw_82 : Cond.constant RX1 13 65536 ∈ bigW := big_in (List.mem_of_getElem? (i := 451) (by decide +kernel)) rfl
theorem kw_83 : Cond.fieldLink RX1 23 "LogBookModel" "kinds" "[I" ∈ bigW := big_in (List.mem_of_getElem? (i := 457) (by decide +kernel)) rfl
theorem kw_84 : Cond.fieldLink RX1 29 "LogBookModel" "olders" "[I" ∈ bigW := big_in (List.mem_of_getElem? (i := 459) (by decide +kernel)) rfl
theorem kw_85 : Cond.methodLink RX1 90 yX1_latestOf ∈ bigW := big_in (List.mem_of_getElem? (i := 562) (by decide +kernel)) rfl
theorem kw_86 : Cond.instanceMethod yX1_latestOf ∈ bigW := big_in (List.mem_of_getElem? (i := 564) (by decide +kernel)) rfl
theorem kw_87 : Cond.selects RX1 yX1_latestOf yX1_latestOf ∈ bigW := big_in (List.mem_of_getElem? (i := 27) (by decide +kernel)) rfl
theorem kw_88 : Cond.code yX1_latestOf cX1_latestOf 4 (some .int) ∈ bigW := big_in (List.mem_of_getElem? (i := 565) (by decide +kernel)) rfl
theorem kw_89 : Cond.fieldLink RX1 32 "LogBookModel" "links" "[I" ∈ bigW := big_in (List.mem_of_getElem? (i := 460) (by decide +kernel)) rfl
theorem kw_90 : Cond.methodLink RX1 79 yX1_addRow ∈ bigW := big_in (List.mem_of_getElem? (i := 543) (by decide +kernel)) rfl
theorem kw_91 : Cond.instanceMethod yX1_addRow ∈ bigW := big_in (List.mem_of_getElem? (i := 545) (by decide +kernel)) rfl
theorem kw_92 : Cond.selects RX1 yX1_addRow yX1_addRow ∈ bigW := big_in (List.mem_of_getElem? (i := 26) (by decide +kernel)) rfl
theorem kw_93 : Cond.code yX1_addRow cX1_addRow 4 none ∈ bigW := big_in (List.mem_of_getElem? (i := 546) (by decide +kernel)) rfl
theorem kw_94 : Cond.fieldLink RX1 14 "LogBookModel" "words" "[I" ∈ bigW := big_in (List.mem_of_getElem? (i := 454) (by decide +kernel)) rfl
theorem kw_95 : Cond.fieldLink RX1 7 "LogBookModel" "buffer" "[I" ∈ bigW := big_in (List.mem_of_getElem? (i := 453) (by decide +kernel)) rfl
theorem kw_96 : Cond.methodLink RX1 97 yX1_rowOf ∈ bigW := big_in (List.mem_of_getElem? (i := 570) (by decide +kernel)) rfl
theorem kw_97 : Cond.instanceMethod yX1_rowOf ∈ bigW := big_in (List.mem_of_getElem? (i := 572) (by decide +kernel)) rfl
theorem kw_98 : Cond.selects RX1 yX1_rowOf yX1_rowOf ∈ bigW := big_in (List.mem_of_getElem? (i := 28) (by decide +kernel)) rfl
theorem kw_99 : Cond.code yX1_rowOf cX1_rowOf 4 (some .int) ∈ bigW := big_in (List.mem_of_getElem? (i := 573) (by decide +kernel)) rfl
theorem kw_100 : Cond.methodLink RX0 3 objectInit ∈ bigW := big_in (List.mem_of_getElem? (i := 48) (by decide +kernel)) rfl
theorem kw_101 : Cond.instanceMethod objectInit ∈ bigW := big_in (List.mem_of_getElem? (i := 49) (by decide +kernel)) rfl
theorem kw_102 : Cond.code objectInit ⟨#[0xb1]⟩ 1 none ∈ bigW := big_in (List.mem_of_getElem? (i := 50) (by decide +kernel)) rfl
theorem kw_103 : Cond.arrayClass .int ∈ bigW := big_in (List.mem_of_getElem? (i := 74) (by decide +kernel)) rfl
theorem kw_104 : Cond.fieldLink RX0 21 "LogBook" "forcedPlace" "I" ∈ bigW := big_in (List.mem_of_getElem? (i := 55) (by decide +kernel)) rfl
theorem kw_105 : Cond.fieldLink RX0 27 "LogBook" "wordsToFailure" "I" ∈ bigW := big_in (List.mem_of_getElem? (i := 57) (by decide +kernel)) rfl
theorem kw_106 : Cond.methodLink RX1 1 objectInit ∈ bigW := big_in (List.mem_of_getElem? (i := 450) (by decide +kernel)) rfl
theorem kw_107 : Cond.arrayClass .boolean ∈ bigW := big_in (List.mem_of_getElem? (i := 510) (by decide +kernel)) rfl
theorem kw_108 : Cond.fieldLink RX1 39 "LogBookModel" "left" "I" ∈ bigW := big_in (List.mem_of_getElem? (i := 468) (by decide +kernel)) rfl
theorem kw_109 : Cond.fieldLink RX1 43 "LogBookModel" "begun" "I" ∈ bigW := big_in (List.mem_of_getElem? (i := 469) (by decide +kernel)) rfl
theorem kw_110 : Cond.methodLink RL 20 yX0_append ∈ bigW := big_in (List.mem_of_getElem? (i := 200) (by decide +kernel)) rfl
theorem kw_111 : Cond.instanceMethod yX0_append ∈ bigW := big_in (List.mem_of_getElem? (i := 201) (by decide +kernel)) rfl
theorem kw_112 : Cond.selects RX0 yX0_append yX0_append ∈ bigW := big_in (List.mem_of_getElem? (i := 202) (by decide +kernel)) rfl
theorem kw_113 : Cond.code yX0_append cX0_append 8 (some .int) ∈ bigW := big_in (List.mem_of_getElem? (i := 203) (by decide +kernel)) rfl
theorem kw_114 : Cond.classLink RL 13 "java/lang/IllegalStateException" ∈ bigW := big_in (List.mem_of_getElem? (i := 94) (by decide +kernel)) rfl
theorem kw_115 : Cond.classLink RL 24 "java/lang/IllegalArgumentException" ∈ bigW := big_in (List.mem_of_getElem? (i := 199) (by decide +kernel)) rfl
theorem kw_116 : Cond.methodLink RL 64 yX0_back ∈ bigW := big_in (List.mem_of_getElem? (i := 393) (by decide +kernel)) rfl
theorem kw_117 : Cond.instanceMethod yX0_back ∈ bigW := big_in (List.mem_of_getElem? (i := 394) (by decide +kernel)) rfl
theorem kw_118 : Cond.selects RX0 yX0_back yX0_back ∈ bigW := big_in (List.mem_of_getElem? (i := 395) (by decide +kernel)) rfl
theorem kw_119 : Cond.code yX0_back cX0_back 4 (some .int) ∈ bigW := big_in (List.mem_of_getElem? (i := 396) (by decide +kernel)) rfl
theorem g_RX0_97 : GoodIn bigW (wsV RX0 97 RX0 yX0_wordAt wsX0_wordAt) := gV kw_3 kw_4 kw_5 kw_6 kw_7
theorem g_RX0_88 : GoodIn bigW (wsV RX0 88 RX0 yX0_lastRecordBefore wsX0_lastRecordBefore) := gV kw_13 kw_14 kw_15 kw_6 kw_16
theorem g_RX0_94 : GoodIn bigW (wsV RX0 94 RX0 yX0_ownerAt wsX0_ownerAt) := gV kw_17 kw_18 kw_19 kw_6 kw_20
theorem g_RX0_91 : GoodIn bigW (wsV RX0 91 RX0 yX0_kindAt wsX0_kindAt) := gV kw_21 kw_22 kw_23 kw_6 kw_24
theorem g_RX0_61 : GoodIn bigW (wsV RX0 61 RX0 yX0_lastRecordOf wsX0_lastRecordOf) := gV kw_25 kw_26 kw_27 kw_6 kw_28
theorem g_RX0_147 : GoodIn bigW (wsV RX0 147 RX0 yX0_isAskedFor wsX0_isAskedFor) := gV kw_29 kw_30 kw_31 kw_6 kw_32
theorem g_RX0_151 : GoodIn bigW (wsV RX0 151 RX0 yX0_stopBehind wsX0_stopBehind) := gV kw_33 kw_34 kw_35 kw_6 kw_36
theorem g_RX0_65 : GoodIn bigW (wsV RX0 65 RX0 yX0_addWord wsX0_addWord) := gV kw_38 kw_39 kw_40 kw_6 kw_41
theorem g_RX0_34 : GoodIn bigW (wsV RX0 34 RX0 yX0_requireOpen wsX0_requireOpen) := gV kw_47 kw_48 kw_49 kw_6 kw_50
theorem g_RX0_48 : GoodIn bigW (wsV RX0 48 RX0 yX0_requireOwner wsX0_requireOwner) := gV kw_51 kw_52 kw_53 kw_6 kw_54
theorem g_RX0_68 : GoodIn bigW (wsV RX0 68 RX0 yX0_addContent wsX0_addContent) := gV kw_56 kw_57 kw_58 kw_6 kw_59
theorem g_RX0_109 : GoodIn bigW (wsV RX0 109 RX0 yX0_kthOnTheWay wsX0_kthOnTheWay) := gV kw_60 kw_61 kw_62 kw_6 kw_63
theorem g_RX1_83 : GoodIn bigW (va_wsS RX1 83 yX1_in wsX1_in) := gS kw_71 kw_72 kw_73 kw_74
theorem g_RX1_75 : GoodIn bigW (wsV RX1 75 RX1 yX1_refused wsX1_refused) := gV kw_77 kw_78 kw_79 kw_73 kw_80
theorem g_RX1_90 : GoodIn bigW (wsV RX1 90 RX1 yX1_latestOf wsX1_latestOf) := gV kw_85 kw_86 kw_87 kw_73 kw_88
theorem g_RX1_79 : GoodIn bigW (wsV RX1 79 RX1 yX1_addRow wsX1_addRow) := gV kw_90 kw_91 kw_92 kw_73 kw_93
theorem g_RX1_97 : GoodIn bigW (wsV RX1 97 RX1 yX1_rowOf wsX1_rowOf) := gV kw_96 kw_97 kw_98 kw_73 kw_99
theorem g_RL_20 : GoodIn bigW (wsV RL 20 RX0 yX0_append wsX0_append) := gV kw_110 kw_111 kw_112 kw_6 kw_113
theorem g_RL_64 : GoodIn bigW (wsV RL 64 RX0 yX0_back wsX0_back) := gV kw_116 kw_117 kw_118 kw_6 kw_119
theorem xa_RX0_84 : ∀ w ∈ (vx_atS RX0 84 "java/lang/IllegalStateException" ["java/lang/RuntimeException", "java/lang/Exception"]).filter goodWord, w ∈ bigW := fun w hw => big_in ((by decide +kernel : ∀ w ∈ (vx_atS RX0 84 "java/lang/IllegalStateException" ["java/lang/RuntimeException", "java/lang/Exception"]).filter goodWord, w ∈ lw_tbl) w hw) (List.mem_filter.mp hw).2
theorem xa_RX0_56 : ∀ w ∈ (vx_atS RX0 56 "java/lang/IllegalArgumentException" ["java/lang/RuntimeException", "java/lang/Exception"]).filter goodWord, w ∈ bigW := fun w hw => big_in ((by decide +kernel : ∀ w ∈ (vx_atS RX0 56 "java/lang/IllegalArgumentException" ["java/lang/RuntimeException", "java/lang/Exception"]).filter goodWord, w ∈ lw_tbl) w hw) (List.mem_filter.mp hw).2
