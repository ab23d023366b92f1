theorem kw_0 : Cond.fieldLink RX0 10 "LogBook" "ring" "[I" ∈ bigW := big_in (List.mem_of_getElem? (i := 52) (by decide +kernel)) rfl
theorem kw_1 : Cond.constant RX0 138 65535 ∈ bigW := big_in (List.mem_of_getElem? (i := 239) (by decide +kernel)) rfl
theorem kw_2 : Cond.fieldLink RX0 17 "LogBook" "firstPlace" "I" ∈ bigW := big_in (List.mem_of_getElem? (i := 54) (by decide +kernel)) rfl
theorem kw_3 : Cond.methodLink RX0 97 yX0_wordAt ∈ bigW := big_in (List.mem_of_getElem? (i := 235) (by decide +kernel)) rfl
theorem kw_4 : Cond.instanceMethod yX0_wordAt ∈ bigW := big_in (List.mem_of_getElem? (i := 237) (by decide +kernel)) rfl
theorem kw_5 : Cond.selects RX0 yX0_wordAt yX0_wordAt ∈ bigW := big_in (List.mem_of_getElem? (i := 7) (by decide +kernel)) rfl
theorem kw_6 : Cond.initialized RX0 ∈ bigW := big_in (List.mem_of_getElem? (i := 33) (by decide +kernel)) rfl
theorem kw_7 : Cond.code yX0_wordAt cX0_wordAt 2 (some .int) ∈ bigW := big_in (List.mem_of_getElem? (i := 238) (by decide +kernel)) rfl
theorem kw_8 : Cond.methodLink RX0 142 Lib.Math.abs.name ∈ bigW := big_in (List.mem_of_getElem? (i := 240) (by decide +kernel)) rfl
theorem kw_9 : Cond.static Lib.Math.abs.name ∈ bigW := big_in (List.mem_of_getElem? (i := 241) (by decide +kernel)) rfl
theorem kw_10 : Cond.initialized "java/lang/Math" ∈ bigW := big_in (List.mem_of_getElem? (i := 41) (by decide +kernel)) rfl
theorem kw_11 : Cond.code Lib.Math.abs.name Lib.Math.abs.code 1 (some .int) ∈ bigW := big_in (List.mem_of_getElem? (i := 242) (by decide +kernel)) rfl
theorem kw_12 : Cond.fieldLink RX0 24 "LogBook" "endPlace" "I" ∈ bigW := big_in (List.mem_of_getElem? (i := 56) (by decide +kernel)) rfl
theorem kw_13 : Cond.methodLink RX0 88 yX0_lastRecordBefore ∈ bigW := big_in (List.mem_of_getElem? (i := 231) (by decide +kernel)) rfl
theorem kw_14 : Cond.instanceMethod yX0_lastRecordBefore ∈ bigW := big_in (List.mem_of_getElem? (i := 233) (by decide +kernel)) rfl
theorem kw_15 : Cond.selects RX0 yX0_lastRecordBefore yX0_lastRecordBefore ∈ bigW := big_in (List.mem_of_getElem? (i := 6) (by decide +kernel)) rfl
theorem kw_16 : Cond.code yX0_lastRecordBefore cX0_lastRecordBefore 5 (some .int) ∈ bigW := big_in (List.mem_of_getElem? (i := 234) (by decide +kernel)) rfl
theorem kw_17 : Cond.methodLink RX0 94 yX0_ownerAt ∈ bigW := big_in (List.mem_of_getElem? (i := 243) (by decide +kernel)) rfl
theorem kw_18 : Cond.instanceMethod yX0_ownerAt ∈ bigW := big_in (List.mem_of_getElem? (i := 245) (by decide +kernel)) rfl
theorem kw_19 : Cond.selects RX0 yX0_ownerAt yX0_ownerAt ∈ bigW := big_in (List.mem_of_getElem? (i := 8) (by decide +kernel)) rfl
theorem kw_20 : Cond.code yX0_ownerAt cX0_ownerAt 2 (some .int) ∈ bigW := big_in (List.mem_of_getElem? (i := 246) (by decide +kernel)) rfl
theorem kw_21 : Cond.methodLink RX0 74 yX0_behind ∈ bigW := big_in (List.mem_of_getElem? (i := 271) (by decide +kernel)) rfl
theorem kw_22 : Cond.instanceMethod yX0_behind ∈ bigW := big_in (List.mem_of_getElem? (i := 273) (by decide +kernel)) rfl
theorem kw_23 : Cond.selects RX0 yX0_behind yX0_behind ∈ bigW := big_in (List.mem_of_getElem? (i := 13) (by decide +kernel)) rfl
theorem kw_24 : Cond.code yX0_behind cX0_behind 2 (some .int) ∈ bigW := big_in (List.mem_of_getElem? (i := 274) (by decide +kernel)) rfl
theorem kw_25 : Cond.methodLink RX0 139 yX0_isVoid ∈ bigW := big_in (List.mem_of_getElem? (i := 275) (by decide +kernel)) rfl
theorem kw_26 : Cond.instanceMethod yX0_isVoid ∈ bigW := big_in (List.mem_of_getElem? (i := 277) (by decide +kernel)) rfl
theorem kw_27 : Cond.selects RX0 yX0_isVoid yX0_isVoid ∈ bigW := big_in (List.mem_of_getElem? (i := 14) (by decide +kernel)) rfl
theorem kw_28 : Cond.code yX0_isVoid cX0_isVoid 2 (some .boolean) ∈ bigW := big_in (List.mem_of_getElem? (i := 278) (by decide +kernel)) rfl
theorem kw_29 : Cond.methodLink RX0 91 yX0_kindAt ∈ bigW := big_in (List.mem_of_getElem? (i := 373) (by decide +kernel)) rfl
theorem kw_30 : Cond.instanceMethod yX0_kindAt ∈ bigW := big_in (List.mem_of_getElem? (i := 375) (by decide +kernel)) rfl
theorem kw_31 : Cond.selects RX0 yX0_kindAt yX0_kindAt ∈ bigW := big_in (List.mem_of_getElem? (i := 17) (by decide +kernel)) rfl
theorem kw_32 : Cond.code yX0_kindAt cX0_kindAt 2 (some .int) ∈ bigW := big_in (List.mem_of_getElem? (i := 376) (by decide +kernel)) rfl
theorem kw_33 : Cond.methodLink RX0 61 yX0_lastRecordOf ∈ bigW := big_in (List.mem_of_getElem? (i := 227) (by decide +kernel)) rfl
theorem kw_34 : Cond.instanceMethod yX0_lastRecordOf ∈ bigW := big_in (List.mem_of_getElem? (i := 229) (by decide +kernel)) rfl
theorem kw_35 : Cond.selects RX0 yX0_lastRecordOf yX0_lastRecordOf ∈ bigW := big_in (List.mem_of_getElem? (i := 5) (by decide +kernel)) rfl
theorem kw_36 : Cond.code yX0_lastRecordOf cX0_lastRecordOf 4 (some .int) ∈ bigW := big_in (List.mem_of_getElem? (i := 230) (by decide +kernel)) rfl
theorem kw_37 : Cond.methodLink RX0 147 yX0_isAskedFor ∈ bigW := big_in (List.mem_of_getElem? (i := 402) (by decide +kernel)) rfl
theorem kw_38 : Cond.instanceMethod yX0_isAskedFor ∈ bigW := big_in (List.mem_of_getElem? (i := 404) (by decide +kernel)) rfl
theorem kw_39 : Cond.selects RX0 yX0_isAskedFor yX0_isAskedFor ∈ bigW := big_in (List.mem_of_getElem? (i := 20) (by decide +kernel)) rfl
theorem kw_40 : Cond.code yX0_isAskedFor cX0_isAskedFor 4 (some .boolean) ∈ bigW := big_in (List.mem_of_getElem? (i := 405) (by decide +kernel)) rfl
theorem kw_41 : Cond.methodLink RX0 151 yX0_stopBehind ∈ bigW := big_in (List.mem_of_getElem? (i := 406) (by decide +kernel)) rfl
theorem kw_42 : Cond.instanceMethod yX0_stopBehind ∈ bigW := big_in (List.mem_of_getElem? (i := 408) (by decide +kernel)) rfl
theorem kw_43 : Cond.selects RX0 yX0_stopBehind yX0_stopBehind ∈ bigW := big_in (List.mem_of_getElem? (i := 21) (by decide +kernel)) rfl
theorem kw_44 : Cond.code yX0_stopBehind cX0_stopBehind 3 (some .int) ∈ bigW := big_in (List.mem_of_getElem? (i := 409) (by decide +kernel)) rfl
theorem kw_45 : Cond.fieldLink RX0 30 "LogBook" "opened" "Z" ∈ bigW := big_in (List.mem_of_getElem? (i := 58) (by decide +kernel)) rfl
theorem kw_46 : Cond.fieldLink RX0 14 "LogBook" "buffer" "[I" ∈ bigW := big_in (List.mem_of_getElem? (i := 53) (by decide +kernel)) rfl
theorem kw_47 : Cond.methodLink RX0 65 yX0_addWord ∈ bigW := big_in (List.mem_of_getElem? (i := 247) (by decide +kernel)) rfl
theorem kw_48 : Cond.instanceMethod yX0_addWord ∈ bigW := big_in (List.mem_of_getElem? (i := 249) (by decide +kernel)) rfl
theorem kw_49 : Cond.selects RX0 yX0_addWord yX0_addWord ∈ bigW := big_in (List.mem_of_getElem? (i := 9) (by decide +kernel)) rfl
theorem kw_50 : Cond.code yX0_addWord cX0_addWord 2 none ∈ bigW := big_in (List.mem_of_getElem? (i := 250) (by decide +kernel)) rfl
theorem kw_51 : Cond.fieldLink RX0 21 "LogBook" "forcedPlace" "I" ∈ bigW := big_in (List.mem_of_getElem? (i := 55) (by decide +kernel)) rfl
theorem kw_52 : Cond.fieldLink RX0 27 "LogBook" "wordsToFailure" "I" ∈ bigW := big_in (List.mem_of_getElem? (i := 57) (by decide +kernel)) rfl
theorem kw_53 : Cond.methodLink RX0 44 yX0_fillBuffer ∈ bigW := big_in (List.mem_of_getElem? (i := 83) (by decide +kernel)) rfl
theorem kw_54 : Cond.instanceMethod yX0_fillBuffer ∈ bigW := big_in (List.mem_of_getElem? (i := 85) (by decide +kernel)) rfl
theorem kw_55 : Cond.selects RX0 yX0_fillBuffer yX0_fillBuffer ∈ bigW := big_in (List.mem_of_getElem? (i := 1) (by decide +kernel)) rfl
theorem kw_56 : Cond.code yX0_fillBuffer cX0_fillBuffer 4 none ∈ bigW := big_in (List.mem_of_getElem? (i := 86) (by decide +kernel)) rfl
theorem kw_57 : Cond.methodLink RX0 154 Lib.Math.max.name ∈ bigW := big_in (List.mem_of_getElem? (i := 299) (by decide +kernel)) rfl
theorem kw_58 : Cond.static Lib.Math.max.name ∈ bigW := big_in (List.mem_of_getElem? (i := 300) (by decide +kernel)) rfl
theorem kw_59 : Cond.code Lib.Math.max.name Lib.Math.max.code 2 (some .int) ∈ bigW := big_in (List.mem_of_getElem? (i := 301) (by decide +kernel)) rfl
theorem kw_60 : Cond.methodLink RX0 158 Lib.Math.min.name ∈ bigW := big_in (List.mem_of_getElem? (i := 302) (by decide +kernel)) rfl
theorem kw_61 : Cond.static Lib.Math.min.name ∈ bigW := big_in (List.mem_of_getElem? (i := 303) (by decide +kernel)) rfl
theorem kw_62 : Cond.code Lib.Math.min.name Lib.Math.min.code 2 (some .int) ∈ bigW := big_in (List.mem_of_getElem? (i := 304) (by decide +kernel)) rfl
theorem kw_63 : Cond.methodLink RX0 117 yX0_losePower ∈ bigW := big_in (List.mem_of_getElem? (i := 79) (by decide +kernel)) rfl
theorem kw_64 : Cond.instanceMethod yX0_losePower ∈ bigW := big_in (List.mem_of_getElem? (i := 81) (by decide +kernel)) rfl
theorem kw_65 : Cond.selects RX0 yX0_losePower yX0_losePower ∈ bigW := big_in (List.mem_of_getElem? (i := 0) (by decide +kernel)) rfl
theorem kw_66 : Cond.code yX0_losePower cX0_losePower 1 none ∈ bigW := big_in (List.mem_of_getElem? (i := 82) (by decide +kernel)) rfl
theorem kw_67 : Cond.classLink RX0 80 "java/lang/IllegalStateException" ∈ bigW := big_in (List.mem_of_getElem? (i := 104) (by decide +kernel)) rfl
theorem kw_68 : Cond.initialized "java/lang/IllegalStateException" ∈ bigW := big_in (List.mem_of_getElem? (i := 38) (by decide +kernel)) rfl
theorem kw_69 : Cond.classLink RX0 52 "java/lang/IllegalArgumentException" ∈ bigW := big_in (List.mem_of_getElem? (i := 208) (by decide +kernel)) rfl
theorem kw_70 : Cond.initialized "java/lang/IllegalArgumentException" ∈ bigW := big_in (List.mem_of_getElem? (i := 40) (by decide +kernel)) rfl
theorem kw_71 : Cond.methodLink RX0 129 yX0_isRecord ∈ bigW := big_in (List.mem_of_getElem? (i := 267) (by decide +kernel)) rfl
theorem kw_72 : Cond.instanceMethod yX0_isRecord ∈ bigW := big_in (List.mem_of_getElem? (i := 269) (by decide +kernel)) rfl
theorem kw_73 : Cond.selects RX0 yX0_isRecord yX0_isRecord ∈ bigW := big_in (List.mem_of_getElem? (i := 12) (by decide +kernel)) rfl
theorem kw_74 : Cond.code yX0_isRecord cX0_isRecord 4 (some .boolean) ∈ bigW := big_in (List.mem_of_getElem? (i := 270) (by decide +kernel)) rfl
theorem kw_75 : Cond.classLink RX0 133 "java/util/NoSuchElementException" ∈ bigW := big_in (List.mem_of_getElem? (i := 279) (by decide +kernel)) rfl
theorem kw_76 : Cond.initialized "java/util/NoSuchElementException" ∈ bigW := big_in (List.mem_of_getElem? (i := 42) (by decide +kernel)) rfl
theorem kw_77 : Cond.methodLink RX0 34 yX0_requireOpen ∈ bigW := big_in (List.mem_of_getElem? (i := 100) (by decide +kernel)) rfl
theorem kw_78 : Cond.instanceMethod yX0_requireOpen ∈ bigW := big_in (List.mem_of_getElem? (i := 102) (by decide +kernel)) rfl
theorem kw_79 : Cond.selects RX0 yX0_requireOpen yX0_requireOpen ∈ bigW := big_in (List.mem_of_getElem? (i := 2) (by decide +kernel)) rfl
theorem kw_80 : Cond.code yX0_requireOpen cX0_requireOpen 1 none ∈ bigW := big_in (List.mem_of_getElem? (i := 103) (by decide +kernel)) rfl
theorem kw_81 : Cond.classLink RX0 37 "java/lang/IndexOutOfBoundsException" ∈ bigW := big_in (List.mem_of_getElem? (i := 173) (by decide +kernel)) rfl
theorem kw_82 : Cond.initialized "java/lang/IndexOutOfBoundsException" ∈ bigW := big_in (List.mem_of_getElem? (i := 39) (by decide +kernel)) rfl
theorem kw_83 : Cond.methodLink RX0 48 yX0_requireOwner ∈ bigW := big_in (List.mem_of_getElem? (i := 204) (by decide +kernel)) rfl
theorem kw_84 : Cond.instanceMethod yX0_requireOwner ∈ bigW := big_in (List.mem_of_getElem? (i := 206) (by decide +kernel)) rfl
theorem kw_85 : Cond.selects RX0 yX0_requireOwner yX0_requireOwner ∈ bigW := big_in (List.mem_of_getElem? (i := 4) (by decide +kernel)) rfl
theorem kw_86 : Cond.code yX0_requireOwner cX0_requireOwner 2 none ∈ bigW := big_in (List.mem_of_getElem? (i := 207) (by decide +kernel)) rfl
theorem kw_87 : Cond.constant RX0 9 65536 ∈ bigW := big_in (List.mem_of_getElem? (i := 51) (by decide +kernel)) rfl
theorem kw_88 : Cond.methodLink RX0 68 yX0_addContent ∈ bigW := big_in (List.mem_of_getElem? (i := 251) (by decide +kernel)) rfl
theorem kw_89 : Cond.instanceMethod yX0_addContent ∈ bigW := big_in (List.mem_of_getElem? (i := 253) (by decide +kernel)) rfl
theorem kw_90 : Cond.selects RX0 yX0_addContent yX0_addContent ∈ bigW := big_in (List.mem_of_getElem? (i := 10) (by decide +kernel)) rfl
theorem kw_91 : Cond.code yX0_addContent cX0_addContent 3 none ∈ bigW := big_in (List.mem_of_getElem? (i := 254) (by decide +kernel)) rfl
theorem kw_92 : Cond.methodLink RX0 71 yX0_requireRecord ∈ bigW := big_in (List.mem_of_getElem? (i := 263) (by decide +kernel)) rfl
theorem kw_93 : Cond.instanceMethod yX0_requireRecord ∈ bigW := big_in (List.mem_of_getElem? (i := 265) (by decide +kernel)) rfl
theorem kw_94 : Cond.selects RX0 yX0_requireRecord yX0_requireRecord ∈ bigW := big_in (List.mem_of_getElem? (i := 11) (by decide +kernel)) rfl
theorem kw_95 : Cond.code yX0_requireRecord cX0_requireRecord 2 none ∈ bigW := big_in (List.mem_of_getElem? (i := 266) (by decide +kernel)) rfl
theorem kw_96 : Cond.methodLink RX0 77 yX0_writeUpTo ∈ bigW := big_in (List.mem_of_getElem? (i := 295) (by decide +kernel)) rfl
theorem kw_97 : Cond.instanceMethod yX0_writeUpTo ∈ bigW := big_in (List.mem_of_getElem? (i := 297) (by decide +kernel)) rfl
theorem kw_98 : Cond.selects RX0 yX0_writeUpTo yX0_writeUpTo ∈ bigW := big_in (List.mem_of_getElem? (i := 15) (by decide +kernel)) rfl
theorem kw_99 : Cond.code yX0_writeUpTo cX0_writeUpTo 4 (some .int) ∈ bigW := big_in (List.mem_of_getElem? (i := 298) (by decide +kernel)) rfl
theorem kw_100 : Cond.methodLink RX0 85 yX0_firstRecordFrom ∈ bigW := big_in (List.mem_of_getElem? (i := 327) (by decide +kernel)) rfl
theorem kw_101 : Cond.instanceMethod yX0_firstRecordFrom ∈ bigW := big_in (List.mem_of_getElem? (i := 329) (by decide +kernel)) rfl
theorem kw_102 : Cond.selects RX0 yX0_firstRecordFrom yX0_firstRecordFrom ∈ bigW := big_in (List.mem_of_getElem? (i := 16) (by decide +kernel)) rfl
theorem kw_103 : Cond.code yX0_firstRecordFrom cX0_firstRecordFrom 4 (some .int) ∈ bigW := big_in (List.mem_of_getElem? (i := 330) (by decide +kernel)) rfl
theorem kw_104 : Cond.methodLink RX0 100 yX0_contentWords ∈ bigW := big_in (List.mem_of_getElem? (i := 377) (by decide +kernel)) rfl
theorem kw_105 : Cond.instanceMethod yX0_contentWords ∈ bigW := big_in (List.mem_of_getElem? (i := 379) (by decide +kernel)) rfl
theorem kw_106 : Cond.selects RX0 yX0_contentWords yX0_contentWords ∈ bigW := big_in (List.mem_of_getElem? (i := 18) (by decide +kernel)) rfl
theorem kw_107 : Cond.code yX0_contentWords cX0_contentWords 2 (some .int) ∈ bigW := big_in (List.mem_of_getElem? (i := 380) (by decide +kernel)) rfl
theorem kw_108 : Cond.methodLink RX0 109 yX0_kthOnTheWay ∈ bigW := big_in (List.mem_of_getElem? (i := 398) (by decide +kernel)) rfl
theorem kw_109 : Cond.instanceMethod yX0_kthOnTheWay ∈ bigW := big_in (List.mem_of_getElem? (i := 400) (by decide +kernel)) rfl
theorem kw_110 : Cond.selects RX0 yX0_kthOnTheWay yX0_kthOnTheWay ∈ bigW := big_in (List.mem_of_getElem? (i := 19) (by decide +kernel)) rfl
theorem kw_111 : Cond.code yX0_kthOnTheWay cX0_kthOnTheWay 8 (some .int) ∈ bigW := big_in (List.mem_of_getElem? (i := 401) (by decide +kernel)) rfl
theorem kw_112 : Cond.methodLink RX0 122 yX0_addVoidRest ∈ bigW := big_in (List.mem_of_getElem? (i := 441) (by decide +kernel)) rfl
theorem kw_113 : Cond.instanceMethod yX0_addVoidRest ∈ bigW := big_in (List.mem_of_getElem? (i := 443) (by decide +kernel)) rfl
theorem kw_114 : Cond.selects RX0 yX0_addVoidRest yX0_addVoidRest ∈ bigW := big_in (List.mem_of_getElem? (i := 22) (by decide +kernel)) rfl
theorem kw_115 : Cond.code yX0_addVoidRest cX0_addVoidRest 5 none ∈ bigW := big_in (List.mem_of_getElem? (i := 444) (by decide +kernel)) rfl
theorem kw_116 : Cond.fieldLink RX1 49 "LogBookModel" "thrown" "I" ∈ bigW := big_in (List.mem_of_getElem? (i := 452) (by decide +kernel)) rfl
theorem kw_117 : Cond.fieldLink RX1 52 "LogBookModel" "base" "I" ∈ bigW := big_in (List.mem_of_getElem? (i := 462) (by decide +kernel)) rfl
theorem kw_118 : Cond.fieldLink RX1 46 "LogBookModel" "count" "I" ∈ bigW := big_in (List.mem_of_getElem? (i := 463) (by decide +kernel)) rfl
theorem kw_119 : Cond.fieldLink RX1 17 "LogBookModel" "serials" "[I" ∈ bigW := big_in (List.mem_of_getElem? (i := 455) (by decide +kernel)) rfl
theorem kw_120 : Cond.fieldLink RX1 35 "LogBookModel" "voids" "[Z" ∈ bigW := big_in (List.mem_of_getElem? (i := 461) (by decide +kernel)) rfl
theorem kw_121 : Cond.fieldLink RX1 20 "LogBookModel" "lengths" "[I" ∈ bigW := big_in (List.mem_of_getElem? (i := 456) (by decide +kernel)) rfl
theorem kw_122 : Cond.fieldLink RX1 26 "LogBookModel" "owners" "[I" ∈ bigW := big_in (List.mem_of_getElem? (i := 458) (by decide +kernel)) rfl
theorem kw_123 : Cond.methodLink RX1 65 yX1_endOf ∈ bigW := big_in (List.mem_of_getElem? (i := 531) (by decide +kernel)) rfl
theorem kw_124 : Cond.instanceMethod yX1_endOf ∈ bigW := big_in (List.mem_of_getElem? (i := 533) (by decide +kernel)) rfl
theorem kw_125 : Cond.selects RX1 yX1_endOf yX1_endOf ∈ bigW := big_in (List.mem_of_getElem? (i := 25) (by decide +kernel)) rfl
theorem kw_126 : Cond.initialized RX1 ∈ bigW := big_in (List.mem_of_getElem? (i := 34) (by decide +kernel)) rfl
theorem kw_127 : Cond.code yX1_endOf cX1_endOf 2 (some .int) ∈ bigW := big_in (List.mem_of_getElem? (i := 534) (by decide +kernel)) rfl
theorem kw_128 : Cond.fieldLink RX1 55 "LogBookModel" "closed" "Z" ∈ bigW := big_in (List.mem_of_getElem? (i := 467) (by decide +kernel)) rfl
theorem kw_129 : Cond.fieldLink RX1 39 "LogBookModel" "left" "I" ∈ bigW := big_in (List.mem_of_getElem? (i := 468) (by decide +kernel)) rfl
theorem kw_130 : Cond.fieldLink RX1 59 "LogBookModel" "forced" "I" ∈ bigW := big_in (List.mem_of_getElem? (i := 465) (by decide +kernel)) rfl
theorem kw_131 : Cond.fieldLink RX1 62 "LogBookModel" "end" "I" ∈ bigW := big_in (List.mem_of_getElem? (i := 466) (by decide +kernel)) rfl
theorem kw_132 : Cond.fieldLink RX1 7 "LogBookModel" "buffer" "[I" ∈ bigW := big_in (List.mem_of_getElem? (i := 453) (by decide +kernel)) rfl
theorem kw_133 : Cond.fieldLink RX1 43 "LogBookModel" "begun" "I" ∈ bigW := big_in (List.mem_of_getElem? (i := 469) (by decide +kernel)) rfl
theorem kw_134 : Cond.fieldLink RX1 69 "LogBookModel" "begunLength" "I" ∈ bigW := big_in (List.mem_of_getElem? (i := 470) (by decide +kernel)) rfl
theorem kw_135 : Cond.methodLink RX1 72 yX1_fail ∈ bigW := big_in (List.mem_of_getElem? (i := 527) (by decide +kernel)) rfl
theorem kw_136 : Cond.instanceMethod yX1_fail ∈ bigW := big_in (List.mem_of_getElem? (i := 529) (by decide +kernel)) rfl
theorem kw_137 : Cond.selects RX1 yX1_fail yX1_fail ∈ bigW := big_in (List.mem_of_getElem? (i := 24) (by decide +kernel)) rfl
theorem kw_138 : Cond.code yX1_fail cX1_fail 2 none ∈ bigW := big_in (List.mem_of_getElem? (i := 530) (by decide +kernel)) rfl
theorem kw_139 : Cond.methodLink RX1 75 yX1_refused ∈ bigW := big_in (List.mem_of_getElem? (i := 519) (by decide +kernel)) rfl
theorem kw_140 : Cond.instanceMethod yX1_refused ∈ bigW := big_in (List.mem_of_getElem? (i := 521) (by decide +kernel)) rfl
theorem kw_141 : Cond.selects RX1 yX1_refused yX1_refused ∈ bigW := big_in (List.mem_of_getElem? (i := 23) (by decide +kernel)) rfl
theorem kw_142 : Cond.code yX1_refused cX1_refused 4 (some .boolean) ∈ bigW := big_in (List.mem_of_getElem? (i := 522) (by decide +kernel)) rfl
theorem kw_143 : Cond.methodLink RX1 79 yX1_addRow ∈ bigW := big_in (List.mem_of_getElem? (i := 543) (by decide +kernel)) rfl
theorem kw_144 : Cond.instanceMethod yX1_addRow ∈ bigW := big_in (List.mem_of_getElem? (i := 545) (by decide +kernel)) rfl
theorem kw_145 : Cond.selects RX1 yX1_addRow yX1_addRow ∈ bigW := big_in (List.mem_of_getElem? (i := 26) (by decide +kernel)) rfl
theorem kw_146 : Cond.code yX1_addRow cX1_addRow 4 none ∈ bigW := big_in (List.mem_of_getElem? (i := 546) (by decide +kernel)) rfl
theorem kw_147 : Cond.methodLink RX1 83 yX1_in ∈ bigW := big_in (List.mem_of_getElem? (i := 551) (by decide +kernel)) rfl
theorem kw_148 : Cond.static yX1_in ∈ bigW := big_in (List.mem_of_getElem? (i := 552) (by decide +kernel)) rfl
theorem kw_149 : Cond.code yX1_in cX1_in 3 (some .boolean) ∈ bigW := big_in (List.mem_of_getElem? (i := 553) (by decide +kernel)) rfl
theorem kw_150 : Cond.fieldLink RX1 87 "LogBookModel" "first" "I" ∈ bigW := big_in (List.mem_of_getElem? (i := 464) (by decide +kernel)) rfl
theorem kw_151 : Cond.constant RX1 13 65536 ∈ bigW := big_in (List.mem_of_getElem? (i := 451) (by decide +kernel)) rfl
theorem kw_152 : Cond.fieldLink RX1 23 "LogBookModel" "kinds" "[I" ∈ bigW := big_in (List.mem_of_getElem? (i := 457) (by decide +kernel)) rfl
theorem kw_153 : Cond.fieldLink RX1 29 "LogBookModel" "olders" "[I" ∈ bigW := big_in (List.mem_of_getElem? (i := 459) (by decide +kernel)) rfl
theorem kw_154 : Cond.methodLink RX1 90 yX1_latestOf ∈ bigW := big_in (List.mem_of_getElem? (i := 562) (by decide +kernel)) rfl
theorem kw_155 : Cond.instanceMethod yX1_latestOf ∈ bigW := big_in (List.mem_of_getElem? (i := 564) (by decide +kernel)) rfl
theorem kw_156 : Cond.selects RX1 yX1_latestOf yX1_latestOf ∈ bigW := big_in (List.mem_of_getElem? (i := 27) (by decide +kernel)) rfl
theorem kw_157 : Cond.code yX1_latestOf cX1_latestOf 4 (some .int) ∈ bigW := big_in (List.mem_of_getElem? (i := 565) (by decide +kernel)) rfl
theorem kw_158 : Cond.fieldLink RX1 32 "LogBookModel" "links" "[I" ∈ bigW := big_in (List.mem_of_getElem? (i := 460) (by decide +kernel)) rfl
theorem kw_159 : Cond.fieldLink RX1 14 "LogBookModel" "words" "[I" ∈ bigW := big_in (List.mem_of_getElem? (i := 454) (by decide +kernel)) rfl
theorem kw_160 : Cond.methodLink RX1 93 yX1_canWrite ∈ bigW := big_in (List.mem_of_getElem? (i := 578) (by decide +kernel)) rfl
theorem kw_161 : Cond.instanceMethod yX1_canWrite ∈ bigW := big_in (List.mem_of_getElem? (i := 580) (by decide +kernel)) rfl
theorem kw_162 : Cond.selects RX1 yX1_canWrite yX1_canWrite ∈ bigW := big_in (List.mem_of_getElem? (i := 30) (by decide +kernel)) rfl
theorem kw_163 : Cond.code yX1_canWrite cX1_canWrite 1 (some .boolean) ∈ bigW := big_in (List.mem_of_getElem? (i := 581) (by decide +kernel)) rfl
theorem kw_164 : Cond.methodLink RX1 97 yX1_rowOf ∈ bigW := big_in (List.mem_of_getElem? (i := 570) (by decide +kernel)) rfl
theorem kw_165 : Cond.instanceMethod yX1_rowOf ∈ bigW := big_in (List.mem_of_getElem? (i := 572) (by decide +kernel)) rfl
theorem kw_166 : Cond.selects RX1 yX1_rowOf yX1_rowOf ∈ bigW := big_in (List.mem_of_getElem? (i := 28) (by decide +kernel)) rfl
theorem kw_167 : Cond.code yX1_rowOf cX1_rowOf 4 (some .int) ∈ bigW := big_in (List.mem_of_getElem? (i := 573) (by decide +kernel)) rfl
theorem kw_168 : Cond.methodLink RX1 100 yX1_forceTo ∈ bigW := big_in (List.mem_of_getElem? (i := 574) (by decide +kernel)) rfl
theorem kw_169 : Cond.instanceMethod yX1_forceTo ∈ bigW := big_in (List.mem_of_getElem? (i := 576) (by decide +kernel)) rfl
theorem kw_170 : Cond.selects RX1 yX1_forceTo yX1_forceTo ∈ bigW := big_in (List.mem_of_getElem? (i := 29) (by decide +kernel)) rfl
theorem kw_171 : Cond.code yX1_forceTo cX1_forceTo 3 (some .int) ∈ bigW := big_in (List.mem_of_getElem? (i := 577) (by decide +kernel)) rfl
theorem kw_172 : Cond.methodLink RX1 103 yX1_seek ∈ bigW := big_in (List.mem_of_getElem? (i := 594) (by decide +kernel)) rfl
theorem kw_173 : Cond.instanceMethod yX1_seek ∈ bigW := big_in (List.mem_of_getElem? (i := 596) (by decide +kernel)) rfl
theorem kw_174 : Cond.selects RX1 yX1_seek yX1_seek ∈ bigW := big_in (List.mem_of_getElem? (i := 31) (by decide +kernel)) rfl
theorem kw_175 : Cond.code yX1_seek cX1_seek 5 (some .int) ∈ bigW := big_in (List.mem_of_getElem? (i := 597) (by decide +kernel)) rfl
theorem kw_176 : Cond.methodLink RX0 3 objectInit ∈ bigW := big_in (List.mem_of_getElem? (i := 48) (by decide +kernel)) rfl
theorem kw_177 : Cond.instanceMethod objectInit ∈ bigW := big_in (List.mem_of_getElem? (i := 49) (by decide +kernel)) rfl
theorem kw_178 : Cond.code objectInit ⟨#[0xb1]⟩ 1 none ∈ bigW := big_in (List.mem_of_getElem? (i := 50) (by decide +kernel)) rfl
theorem kw_179 : Cond.arrayClass .int ∈ bigW := big_in (List.mem_of_getElem? (i := 74) (by decide +kernel)) rfl
theorem kw_180 : Cond.methodLink RX1 1 objectInit ∈ bigW := big_in (List.mem_of_getElem? (i := 450) (by decide +kernel)) rfl
theorem kw_181 : Cond.arrayClass .boolean ∈ bigW := big_in (List.mem_of_getElem? (i := 510) (by decide +kernel)) rfl
theorem kw_182 : Cond.methodLink RL 7 yX0_set ∈ bigW := big_in (List.mem_of_getElem? (i := 96) (by decide +kernel)) rfl
theorem kw_183 : Cond.instanceMethod yX0_set ∈ bigW := big_in (List.mem_of_getElem? (i := 97) (by decide +kernel)) rfl
theorem kw_184 : Cond.selects RX0 yX0_set yX0_set ∈ bigW := big_in (List.mem_of_getElem? (i := 98) (by decide +kernel)) rfl
theorem kw_185 : Cond.code yX0_set cX0_set 3 none ∈ bigW := big_in (List.mem_of_getElem? (i := 99) (by decide +kernel)) rfl
theorem kw_186 : Cond.classLink RL 13 "java/lang/IllegalStateException" ∈ bigW := big_in (List.mem_of_getElem? (i := 94) (by decide +kernel)) rfl
theorem kw_187 : Cond.classLink RL 15 "java/lang/IndexOutOfBoundsException" ∈ bigW := big_in (List.mem_of_getElem? (i := 95) (by decide +kernel)) rfl
theorem kw_188 : Cond.methodLink RL 17 yX0_fill ∈ bigW := big_in (List.mem_of_getElem? (i := 192) (by decide +kernel)) rfl
theorem kw_189 : Cond.instanceMethod yX0_fill ∈ bigW := big_in (List.mem_of_getElem? (i := 193) (by decide +kernel)) rfl
theorem kw_190 : Cond.selects RX0 yX0_fill yX0_fill ∈ bigW := big_in (List.mem_of_getElem? (i := 194) (by decide +kernel)) rfl
theorem kw_191 : Cond.code yX0_fill cX0_fill 3 none ∈ bigW := big_in (List.mem_of_getElem? (i := 195) (by decide +kernel)) rfl
theorem kw_192 : Cond.methodLink RL 20 yX0_append ∈ bigW := big_in (List.mem_of_getElem? (i := 200) (by decide +kernel)) rfl
theorem kw_193 : Cond.instanceMethod yX0_append ∈ bigW := big_in (List.mem_of_getElem? (i := 201) (by decide +kernel)) rfl
theorem kw_194 : Cond.selects RX0 yX0_append yX0_append ∈ bigW := big_in (List.mem_of_getElem? (i := 202) (by decide +kernel)) rfl
theorem kw_195 : Cond.code yX0_append cX0_append 8 (some .int) ∈ bigW := big_in (List.mem_of_getElem? (i := 203) (by decide +kernel)) rfl
theorem kw_196 : Cond.classLink RL 24 "java/lang/IllegalArgumentException" ∈ bigW := big_in (List.mem_of_getElem? (i := 199) (by decide +kernel)) rfl
theorem kw_197 : Cond.methodLink RL 26 yX0_force ∈ bigW := big_in (List.mem_of_getElem? (i := 259) (by decide +kernel)) rfl
theorem kw_198 : Cond.instanceMethod yX0_force ∈ bigW := big_in (List.mem_of_getElem? (i := 260) (by decide +kernel)) rfl
theorem kw_199 : Cond.selects RX0 yX0_force yX0_force ∈ bigW := big_in (List.mem_of_getElem? (i := 261) (by decide +kernel)) rfl
theorem kw_200 : Cond.code yX0_force cX0_force 2 (some .int) ∈ bigW := big_in (List.mem_of_getElem? (i := 262) (by decide +kernel)) rfl
theorem kw_201 : Cond.classLink RL 30 "java/util/NoSuchElementException" ∈ bigW := big_in (List.mem_of_getElem? (i := 258) (by decide +kernel)) rfl
theorem kw_202 : Cond.methodLink RL 32 yX0_forceAll ∈ bigW := big_in (List.mem_of_getElem? (i := 308) (by decide +kernel)) rfl
theorem kw_203 : Cond.instanceMethod yX0_forceAll ∈ bigW := big_in (List.mem_of_getElem? (i := 309) (by decide +kernel)) rfl
theorem kw_204 : Cond.selects RX0 yX0_forceAll yX0_forceAll ∈ bigW := big_in (List.mem_of_getElem? (i := 310) (by decide +kernel)) rfl
theorem kw_205 : Cond.code yX0_forceAll cX0_forceAll 1 (some .int) ∈ bigW := big_in (List.mem_of_getElem? (i := 311) (by decide +kernel)) rfl
theorem kw_206 : Cond.methodLink RL 36 yX0_giveBack ∈ bigW := big_in (List.mem_of_getElem? (i := 315) (by decide +kernel)) rfl
theorem kw_207 : Cond.instanceMethod yX0_giveBack ∈ bigW := big_in (List.mem_of_getElem? (i := 316) (by decide +kernel)) rfl
theorem kw_208 : Cond.selects RX0 yX0_giveBack yX0_giveBack ∈ bigW := big_in (List.mem_of_getElem? (i := 317) (by decide +kernel)) rfl
theorem kw_209 : Cond.code yX0_giveBack cX0_giveBack 3 (some .int) ∈ bigW := big_in (List.mem_of_getElem? (i := 318) (by decide +kernel)) rfl
theorem kw_210 : Cond.methodLink RL 39 yX0_first ∈ bigW := big_in (List.mem_of_getElem? (i := 323) (by decide +kernel)) rfl
theorem kw_211 : Cond.instanceMethod yX0_first ∈ bigW := big_in (List.mem_of_getElem? (i := 324) (by decide +kernel)) rfl
theorem kw_212 : Cond.selects RX0 yX0_first yX0_first ∈ bigW := big_in (List.mem_of_getElem? (i := 325) (by decide +kernel)) rfl
theorem kw_213 : Cond.code yX0_first cX0_first 1 (some .int) ∈ bigW := big_in (List.mem_of_getElem? (i := 326) (by decide +kernel)) rfl
theorem kw_214 : Cond.methodLink RL 42 yX0_last ∈ bigW := big_in (List.mem_of_getElem? (i := 334) (by decide +kernel)) rfl
theorem kw_215 : Cond.instanceMethod yX0_last ∈ bigW := big_in (List.mem_of_getElem? (i := 335) (by decide +kernel)) rfl
theorem kw_216 : Cond.selects RX0 yX0_last yX0_last ∈ bigW := big_in (List.mem_of_getElem? (i := 336) (by decide +kernel)) rfl
theorem kw_217 : Cond.code yX0_last cX0_last 1 (some .int) ∈ bigW := big_in (List.mem_of_getElem? (i := 337) (by decide +kernel)) rfl
theorem kw_218 : Cond.methodLink RL 45 yX0_lastForced ∈ bigW := big_in (List.mem_of_getElem? (i := 341) (by decide +kernel)) rfl
theorem kw_219 : Cond.instanceMethod yX0_lastForced ∈ bigW := big_in (List.mem_of_getElem? (i := 342) (by decide +kernel)) rfl
theorem kw_220 : Cond.selects RX0 yX0_lastForced yX0_lastForced ∈ bigW := big_in (List.mem_of_getElem? (i := 343) (by decide +kernel)) rfl
theorem kw_221 : Cond.code yX0_lastForced cX0_lastForced 1 (some .int) ∈ bigW := big_in (List.mem_of_getElem? (i := 344) (by decide +kernel)) rfl
theorem kw_222 : Cond.methodLink RL 48 yX0_next ∈ bigW := big_in (List.mem_of_getElem? (i := 348) (by decide +kernel)) rfl
theorem kw_223 : Cond.instanceMethod yX0_next ∈ bigW := big_in (List.mem_of_getElem? (i := 349) (by decide +kernel)) rfl
theorem kw_224 : Cond.selects RX0 yX0_next yX0_next ∈ bigW := big_in (List.mem_of_getElem? (i := 350) (by decide +kernel)) rfl
theorem kw_225 : Cond.code yX0_next cX0_next 2 (some .int) ∈ bigW := big_in (List.mem_of_getElem? (i := 351) (by decide +kernel)) rfl
theorem kw_226 : Cond.methodLink RL 51 yX0_before ∈ bigW := big_in (List.mem_of_getElem? (i := 355) (by decide +kernel)) rfl
theorem kw_227 : Cond.instanceMethod yX0_before ∈ bigW := big_in (List.mem_of_getElem? (i := 356) (by decide +kernel)) rfl
theorem kw_228 : Cond.selects RX0 yX0_before yX0_before ∈ bigW := big_in (List.mem_of_getElem? (i := 357) (by decide +kernel)) rfl
theorem kw_229 : Cond.code yX0_before cX0_before 2 (some .int) ∈ bigW := big_in (List.mem_of_getElem? (i := 358) (by decide +kernel)) rfl
theorem kw_230 : Cond.methodLink RL 54 yX0_lastOf ∈ bigW := big_in (List.mem_of_getElem? (i := 362) (by decide +kernel)) rfl
theorem kw_231 : Cond.instanceMethod yX0_lastOf ∈ bigW := big_in (List.mem_of_getElem? (i := 363) (by decide +kernel)) rfl
theorem kw_232 : Cond.selects RX0 yX0_lastOf yX0_lastOf ∈ bigW := big_in (List.mem_of_getElem? (i := 364) (by decide +kernel)) rfl
theorem kw_233 : Cond.code yX0_lastOf cX0_lastOf 2 (some .int) ∈ bigW := big_in (List.mem_of_getElem? (i := 365) (by decide +kernel)) rfl
theorem kw_234 : Cond.methodLink RL 57 yX0_of ∈ bigW := big_in (List.mem_of_getElem? (i := 369) (by decide +kernel)) rfl
theorem kw_235 : Cond.instanceMethod yX0_of ∈ bigW := big_in (List.mem_of_getElem? (i := 370) (by decide +kernel)) rfl
theorem kw_236 : Cond.selects RX0 yX0_of yX0_of ∈ bigW := big_in (List.mem_of_getElem? (i := 371) (by decide +kernel)) rfl
theorem kw_237 : Cond.code yX0_of cX0_of 3 (some .int) ∈ bigW := big_in (List.mem_of_getElem? (i := 372) (by decide +kernel)) rfl
theorem kw_238 : Cond.methodLink RL 61 yX0_word ∈ bigW := big_in (List.mem_of_getElem? (i := 385) (by decide +kernel)) rfl
theorem kw_239 : Cond.instanceMethod yX0_word ∈ bigW := big_in (List.mem_of_getElem? (i := 386) (by decide +kernel)) rfl
theorem kw_240 : Cond.selects RX0 yX0_word yX0_word ∈ bigW := big_in (List.mem_of_getElem? (i := 387) (by decide +kernel)) rfl
theorem kw_241 : Cond.code yX0_word cX0_word 3 (some .int) ∈ bigW := big_in (List.mem_of_getElem? (i := 388) (by decide +kernel)) rfl
theorem kw_242 : Cond.methodLink RL 64 yX0_back ∈ bigW := big_in (List.mem_of_getElem? (i := 393) (by decide +kernel)) rfl
theorem kw_243 : Cond.instanceMethod yX0_back ∈ bigW := big_in (List.mem_of_getElem? (i := 394) (by decide +kernel)) rfl
theorem kw_244 : Cond.selects RX0 yX0_back yX0_back ∈ bigW := big_in (List.mem_of_getElem? (i := 395) (by decide +kernel)) rfl
theorem kw_245 : Cond.code yX0_back cX0_back 4 (some .int) ∈ bigW := big_in (List.mem_of_getElem? (i := 396) (by decide +kernel)) rfl
theorem kw_246 : Cond.methodLink RL 68 yX0_count ∈ bigW := big_in (List.mem_of_getElem? (i := 413) (by decide +kernel)) rfl
theorem kw_247 : Cond.instanceMethod yX0_count ∈ bigW := big_in (List.mem_of_getElem? (i := 414) (by decide +kernel)) rfl
theorem kw_248 : Cond.selects RX0 yX0_count yX0_count ∈ bigW := big_in (List.mem_of_getElem? (i := 415) (by decide +kernel)) rfl
theorem kw_249 : Cond.code yX0_count cX0_count 4 (some .int) ∈ bigW := big_in (List.mem_of_getElem? (i := 416) (by decide +kernel)) rfl
theorem kw_250 : Cond.methodLink RL 71 yX0_log ∈ bigW := big_in (List.mem_of_getElem? (i := 420) (by decide +kernel)) rfl
theorem kw_251 : Cond.instanceMethod yX0_log ∈ bigW := big_in (List.mem_of_getElem? (i := 421) (by decide +kernel)) rfl
theorem kw_252 : Cond.selects RX0 yX0_log yX0_log ∈ bigW := big_in (List.mem_of_getElem? (i := 422) (by decide +kernel)) rfl
theorem kw_253 : Cond.code yX0_log cX0_log 2 (some .int) ∈ bigW := big_in (List.mem_of_getElem? (i := 423) (by decide +kernel)) rfl
theorem kw_254 : Cond.methodLink RL 74 yX0_cutAfter ∈ bigW := big_in (List.mem_of_getElem? (i := 428) (by decide +kernel)) rfl
theorem kw_255 : Cond.instanceMethod yX0_cutAfter ∈ bigW := big_in (List.mem_of_getElem? (i := 429) (by decide +kernel)) rfl
theorem kw_256 : Cond.selects RX0 yX0_cutAfter yX0_cutAfter ∈ bigW := big_in (List.mem_of_getElem? (i := 430) (by decide +kernel)) rfl
theorem kw_257 : Cond.code yX0_cutAfter cX0_cutAfter 2 none ∈ bigW := big_in (List.mem_of_getElem? (i := 431) (by decide +kernel)) rfl
theorem kw_258 : Cond.methodLink RL 78 yX0_open ∈ bigW := big_in (List.mem_of_getElem? (i := 436) (by decide +kernel)) rfl
theorem kw_259 : Cond.instanceMethod yX0_open ∈ bigW := big_in (List.mem_of_getElem? (i := 437) (by decide +kernel)) rfl
theorem kw_260 : Cond.selects RX0 yX0_open yX0_open ∈ bigW := big_in (List.mem_of_getElem? (i := 438) (by decide +kernel)) rfl
theorem kw_261 : Cond.code yX0_open cX0_open 2 (some .int) ∈ bigW := big_in (List.mem_of_getElem? (i := 439) (by decide +kernel)) rfl
theorem g_RX0_97 : GoodIn bigW (wsV RX0 97 RX0 yX0_wordAt wsX0_wordAt) := gV kw_3 kw_4 kw_5 kw_6 kw_7
theorem g_RX0_88 : GoodIn bigW (wsV RX0 88 RX0 yX0_lastRecordBefore wsX0_lastRecordBefore) := gV kw_13 kw_14 kw_15 kw_6 kw_16
theorem g_RX0_94 : GoodIn bigW (wsV RX0 94 RX0 yX0_ownerAt wsX0_ownerAt) := gV kw_17 kw_18 kw_19 kw_6 kw_20
theorem g_RX0_74 : GoodIn bigW (wsV RX0 74 RX0 yX0_behind wsX0_behind) := gV kw_21 kw_22 kw_23 kw_6 kw_24
theorem g_RX0_139 : GoodIn bigW (wsV RX0 139 RX0 yX0_isVoid wsX0_isVoid) := gV kw_25 kw_26 kw_27 kw_6 kw_28
theorem g_RX0_91 : GoodIn bigW (wsV RX0 91 RX0 yX0_kindAt wsX0_kindAt) := gV kw_29 kw_30 kw_31 kw_6 kw_32
theorem g_RX0_61 : GoodIn bigW (wsV RX0 61 RX0 yX0_lastRecordOf wsX0_lastRecordOf) := gV kw_33 kw_34 kw_35 kw_6 kw_36
theorem g_RX0_147 : GoodIn bigW (wsV RX0 147 RX0 yX0_isAskedFor wsX0_isAskedFor) := gV kw_37 kw_38 kw_39 kw_6 kw_40
theorem g_RX0_151 : GoodIn bigW (wsV RX0 151 RX0 yX0_stopBehind wsX0_stopBehind) := gV kw_41 kw_42 kw_43 kw_6 kw_44
theorem g_RX0_65 : GoodIn bigW (wsV RX0 65 RX0 yX0_addWord wsX0_addWord) := gV kw_47 kw_48 kw_49 kw_6 kw_50
theorem g_RX0_44 : GoodIn bigW (wsV RX0 44 RX0 yX0_fillBuffer wsX0_fillBuffer) := gV kw_53 kw_54 kw_55 kw_6 kw_56
theorem g_RX0_117 : GoodIn bigW (wsV RX0 117 RX0 yX0_losePower wsX0_losePower) := gV kw_63 kw_64 kw_65 kw_6 kw_66
theorem g_RX0_129 : GoodIn bigW (wsV RX0 129 RX0 yX0_isRecord wsX0_isRecord) := gV kw_71 kw_72 kw_73 kw_6 kw_74
theorem g_RX0_34 : GoodIn bigW (wsV RX0 34 RX0 yX0_requireOpen wsX0_requireOpen) := gV kw_77 kw_78 kw_79 kw_6 kw_80
theorem g_RX0_48 : GoodIn bigW (wsV RX0 48 RX0 yX0_requireOwner wsX0_requireOwner) := gV kw_83 kw_84 kw_85 kw_6 kw_86
theorem g_RX0_68 : GoodIn bigW (wsV RX0 68 RX0 yX0_addContent wsX0_addContent) := gV kw_88 kw_89 kw_90 kw_6 kw_91
theorem g_RX0_71 : GoodIn bigW (wsV RX0 71 RX0 yX0_requireRecord wsX0_requireRecord) := gV kw_92 kw_93 kw_94 kw_6 kw_95
theorem g_RX0_77 : GoodIn bigW (wsV RX0 77 RX0 yX0_writeUpTo wsX0_writeUpTo) := gV kw_96 kw_97 kw_98 kw_6 kw_99
theorem g_RX0_85 : GoodIn bigW (wsV RX0 85 RX0 yX0_firstRecordFrom wsX0_firstRecordFrom) := gV kw_100 kw_101 kw_102 kw_6 kw_103
theorem g_RX0_100 : GoodIn bigW (wsV RX0 100 RX0 yX0_contentWords wsX0_contentWords) := gV kw_104 kw_105 kw_106 kw_6 kw_107
theorem g_RX0_109 : GoodIn bigW (wsV RX0 109 RX0 yX0_kthOnTheWay wsX0_kthOnTheWay) := gV kw_108 kw_109 kw_110 kw_6 kw_111
theorem g_RX0_122 : GoodIn bigW (wsV RX0 122 RX0 yX0_addVoidRest wsX0_addVoidRest) := gV kw_112 kw_113 kw_114 kw_6 kw_115
theorem g_RX1_65 : GoodIn bigW (wsV RX1 65 RX1 yX1_endOf wsX1_endOf) := gV kw_123 kw_124 kw_125 kw_126 kw_127
theorem g_RX1_72 : GoodIn bigW (wsV RX1 72 RX1 yX1_fail wsX1_fail) := gV kw_135 kw_136 kw_137 kw_126 kw_138
theorem g_RX1_75 : GoodIn bigW (wsV RX1 75 RX1 yX1_refused wsX1_refused) := gV kw_139 kw_140 kw_141 kw_126 kw_142
theorem g_RX1_79 : GoodIn bigW (wsV RX1 79 RX1 yX1_addRow wsX1_addRow) := gV kw_143 kw_144 kw_145 kw_126 kw_146
theorem g_RX1_83 : GoodIn bigW (va_wsS RX1 83 yX1_in wsX1_in) := gS kw_147 kw_148 kw_126 kw_149
theorem g_RX1_90 : GoodIn bigW (wsV RX1 90 RX1 yX1_latestOf wsX1_latestOf) := gV kw_154 kw_155 kw_156 kw_126 kw_157
theorem g_RX1_93 : GoodIn bigW (wsV RX1 93 RX1 yX1_canWrite wsX1_canWrite) := gV kw_160 kw_161 kw_162 kw_126 kw_163
theorem g_RX1_97 : GoodIn bigW (wsV RX1 97 RX1 yX1_rowOf wsX1_rowOf) := gV kw_164 kw_165 kw_166 kw_126 kw_167
theorem g_RX1_100 : GoodIn bigW (wsV RX1 100 RX1 yX1_forceTo wsX1_forceTo) := gV kw_168 kw_169 kw_170 kw_126 kw_171
theorem g_RX1_103 : GoodIn bigW (wsV RX1 103 RX1 yX1_seek wsX1_seek) := gV kw_172 kw_173 kw_174 kw_126 kw_175
theorem g_RL_7 : GoodIn bigW (wsV RL 7 RX0 yX0_set wsX0_set) := gV kw_182 kw_183 kw_184 kw_6 kw_185
theorem g_RL_17 : GoodIn bigW (wsV RL 17 RX0 yX0_fill wsX0_fill) := gV kw_188 kw_189 kw_190 kw_6 kw_191
theorem g_RL_20 : GoodIn bigW (wsV RL 20 RX0 yX0_append wsX0_append) := gV kw_192 kw_193 kw_194 kw_6 kw_195
theorem g_RL_26 : GoodIn bigW (wsV RL 26 RX0 yX0_force wsX0_force) := gV kw_197 kw_198 kw_199 kw_6 kw_200
theorem g_RL_32 : GoodIn bigW (wsV RL 32 RX0 yX0_forceAll wsX0_forceAll) := gV kw_202 kw_203 kw_204 kw_6 kw_205
theorem g_RL_36 : GoodIn bigW (wsV RL 36 RX0 yX0_giveBack wsX0_giveBack) := gV kw_206 kw_207 kw_208 kw_6 kw_209
theorem g_RL_39 : GoodIn bigW (wsV RL 39 RX0 yX0_first wsX0_first) := gV kw_210 kw_211 kw_212 kw_6 kw_213
theorem g_RL_42 : GoodIn bigW (wsV RL 42 RX0 yX0_last wsX0_last) := gV kw_214 kw_215 kw_216 kw_6 kw_217
theorem g_RL_45 : GoodIn bigW (wsV RL 45 RX0 yX0_lastForced wsX0_lastForced) := gV kw_218 kw_219 kw_220 kw_6 kw_221
theorem g_RL_48 : GoodIn bigW (wsV RL 48 RX0 yX0_next wsX0_next) := gV kw_222 kw_223 kw_224 kw_6 kw_225
theorem g_RL_51 : GoodIn bigW (wsV RL 51 RX0 yX0_before wsX0_before) := gV kw_226 kw_227 kw_228 kw_6 kw_229
theorem g_RL_54 : GoodIn bigW (wsV RL 54 RX0 yX0_lastOf wsX0_lastOf) := gV kw_230 kw_231 kw_232 kw_6 kw_233
theorem g_RL_57 : GoodIn bigW (wsV RL 57 RX0 yX0_of wsX0_of) := gV kw_234 kw_235 kw_236 kw_6 kw_237
theorem g_RL_61 : GoodIn bigW (wsV RL 61 RX0 yX0_word wsX0_word) := gV kw_238 kw_239 kw_240 kw_6 kw_241
theorem g_RL_64 : GoodIn bigW (wsV RL 64 RX0 yX0_back wsX0_back) := gV kw_242 kw_243 kw_244 kw_6 kw_245
theorem g_RL_68 : GoodIn bigW (wsV RL 68 RX0 yX0_count wsX0_count) := gV kw_246 kw_247 kw_248 kw_6 kw_249
theorem g_RL_71 : GoodIn bigW (wsV RL 71 RX0 yX0_log wsX0_log) := gV kw_250 kw_251 kw_252 kw_6 kw_253
theorem g_RL_74 : GoodIn bigW (wsV RL 74 RX0 yX0_cutAfter wsX0_cutAfter) := gV kw_254 kw_255 kw_256 kw_6 kw_257
theorem g_RL_78 : GoodIn bigW (wsV RL 78 RX0 yX0_open wsX0_open) := gV kw_258 kw_259 kw_260 kw_6 kw_261
theorem xa_RX0_84 : ∀ w ∈ (vx_atS RX0 84 "java/lang/IllegalStateException" ["java/lang/RuntimeException", "java/lang/Exception"]).filter goodWord, w ∈ bigW := fun w hw => big_in ((by decide +kernel : ∀ w ∈ (vx_atS RX0 84 "java/lang/IllegalStateException" ["java/lang/RuntimeException", "java/lang/Exception"]).filter goodWord, w ∈ lw_tbl) w hw) (List.mem_filter.mp hw).2
theorem xa_RX0_56 : ∀ w ∈ (vx_atS RX0 56 "java/lang/IllegalArgumentException" ["java/lang/RuntimeException", "java/lang/Exception"]).filter goodWord, w ∈ bigW := fun w hw => big_in ((by decide +kernel : ∀ w ∈ (vx_atS RX0 56 "java/lang/IllegalArgumentException" ["java/lang/RuntimeException", "java/lang/Exception"]).filter goodWord, w ∈ lw_tbl) w hw) (List.mem_filter.mp hw).2
theorem xa_RX0_137 : ∀ w ∈ (tk_atS RX0 137 "java/util/NoSuchElementException" "java/lang/RuntimeException" 13 prog_12_method_4_code ["java/lang/Exception"]).filter goodWord, w ∈ bigW := fun w hw => big_in ((by decide +kernel : ∀ w ∈ (tk_atS RX0 137 "java/util/NoSuchElementException" "java/lang/RuntimeException" 13 prog_12_method_4_code ["java/lang/Exception"]).filter goodWord, w ∈ lw_tbl) w hw) (List.mem_filter.mp hw).2
theorem xa_RX0_41 : ∀ w ∈ (vx_atS RX0 41 "java/lang/IndexOutOfBoundsException" ["java/lang/RuntimeException", "java/lang/Exception"]).filter goodWord, w ∈ bigW := fun w hw => big_in ((by decide +kernel : ∀ w ∈ (vx_atS RX0 41 "java/lang/IndexOutOfBoundsException" ["java/lang/RuntimeException", "java/lang/Exception"]).filter goodWord, w ∈ lw_tbl) w hw) (List.mem_filter.mp hw).2
