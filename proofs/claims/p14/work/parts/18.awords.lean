theorem gIn {cd : Cond} (h5 : cd ∈ bigW) : GoodIn bigW (cd :: bigW) := fun w hw => by
  rcases List.mem_cons.mp hw with rfl | hw
  · exact ⟨h5, good_of_word (List.mem_filter.mp h5).2⟩
  · exact ⟨hw, good_of_word (List.mem_filter.mp hw).2⟩
theorem kw_262 : Cond.methodLink RL 85 yL_set ∈ bigW := big_in (List.mem_of_getElem? (i := 91) (by decide +kernel)) rfl
theorem kw_263 : Cond.static yL_set ∈ bigW := big_in (List.mem_of_getElem? (i := 92) (by decide +kernel)) rfl
theorem kw_264 : Cond.initialized RL ∈ bigW := big_in (List.mem_of_getElem? (i := 32) (by decide +kernel)) rfl
theorem kw_265 : Cond.codeWith yL_set cL_set 4 (some .int) [(0, 6, 9, 13), (0, 6, 12, 15)] ∈ bigW := big_in (List.mem_of_getElem? (i := 93) (by decide +kernel)) rfl
theorem kw_266 : Cond.methodLink RL 90 yX1_set ∈ bigW := big_in (List.mem_of_getElem? (i := 547) (by decide +kernel)) rfl
theorem kw_267 : Cond.instanceMethod yX1_set ∈ bigW := big_in (List.mem_of_getElem? (i := 548) (by decide +kernel)) rfl
theorem kw_268 : Cond.selects RX1 yX1_set yX1_set ∈ bigW := big_in (List.mem_of_getElem? (i := 549) (by decide +kernel)) rfl
theorem kw_269 : Cond.code yX1_set cX1_set 3 none ∈ bigW := big_in (List.mem_of_getElem? (i := 550) (by decide +kernel)) rfl
theorem kw_270 : Cond.methodLink RL 91 yL_fill ∈ bigW := big_in (List.mem_of_getElem? (i := 189) (by decide +kernel)) rfl
theorem kw_271 : Cond.static yL_fill ∈ bigW := big_in (List.mem_of_getElem? (i := 190) (by decide +kernel)) rfl
theorem kw_272 : Cond.codeWith yL_fill cL_fill 4 (some .int) [(0, 6, 9, 13)] ∈ bigW := big_in (List.mem_of_getElem? (i := 191) (by decide +kernel)) rfl
theorem kw_273 : Cond.methodLink RL 93 yX1_fill ∈ bigW := big_in (List.mem_of_getElem? (i := 554) (by decide +kernel)) rfl
theorem kw_274 : Cond.instanceMethod yX1_fill ∈ bigW := big_in (List.mem_of_getElem? (i := 555) (by decide +kernel)) rfl
theorem kw_275 : Cond.selects RX1 yX1_fill yX1_fill ∈ bigW := big_in (List.mem_of_getElem? (i := 556) (by decide +kernel)) rfl
theorem kw_276 : Cond.code yX1_fill cX1_fill 4 none ∈ bigW := big_in (List.mem_of_getElem? (i := 557) (by decide +kernel)) rfl
theorem kw_277 : Cond.methodLink RL 94 yL_append ∈ bigW := big_in (List.mem_of_getElem? (i := 196) (by decide +kernel)) rfl
theorem kw_278 : Cond.static yL_append ∈ bigW := big_in (List.mem_of_getElem? (i := 197) (by decide +kernel)) rfl
theorem kw_279 : Cond.codeWith yL_append cL_append 7 (some .int) [(0, 14, 17, 13), (0, 14, 21, 24)] ∈ bigW := big_in (List.mem_of_getElem? (i := 198) (by decide +kernel)) rfl
theorem kw_280 : Cond.methodLink RL 97 yX1_append ∈ bigW := big_in (List.mem_of_getElem? (i := 558) (by decide +kernel)) rfl
theorem kw_281 : Cond.instanceMethod yX1_append ∈ bigW := big_in (List.mem_of_getElem? (i := 559) (by decide +kernel)) rfl
theorem kw_282 : Cond.selects RX1 yX1_append yX1_append ∈ bigW := big_in (List.mem_of_getElem? (i := 560) (by decide +kernel)) rfl
theorem kw_283 : Cond.code yX1_append cX1_append 7 (some .int) ∈ bigW := big_in (List.mem_of_getElem? (i := 561) (by decide +kernel)) rfl
theorem kw_284 : Cond.methodLink RL 98 yL_force ∈ bigW := big_in (List.mem_of_getElem? (i := 255) (by decide +kernel)) rfl
theorem kw_285 : Cond.static yL_force ∈ bigW := big_in (List.mem_of_getElem? (i := 256) (by decide +kernel)) rfl
theorem kw_286 : Cond.codeWith yL_force cL_force 4 (some .int) [(0, 9, 12, 13), (0, 9, 15, 30)] ∈ bigW := big_in (List.mem_of_getElem? (i := 257) (by decide +kernel)) rfl
theorem kw_287 : Cond.methodLink RL 101 yX1_force ∈ bigW := big_in (List.mem_of_getElem? (i := 566) (by decide +kernel)) rfl
theorem kw_288 : Cond.instanceMethod yX1_force ∈ bigW := big_in (List.mem_of_getElem? (i := 567) (by decide +kernel)) rfl
theorem kw_289 : Cond.selects RX1 yX1_force yX1_force ∈ bigW := big_in (List.mem_of_getElem? (i := 568) (by decide +kernel)) rfl
theorem kw_290 : Cond.code yX1_force cX1_force 3 (some .int) ∈ bigW := big_in (List.mem_of_getElem? (i := 569) (by decide +kernel)) rfl
theorem kw_291 : Cond.methodLink RL 102 yL_forceAll ∈ bigW := big_in (List.mem_of_getElem? (i := 305) (by decide +kernel)) rfl
theorem kw_292 : Cond.static yL_forceAll ∈ bigW := big_in (List.mem_of_getElem? (i := 306) (by decide +kernel)) rfl
theorem kw_293 : Cond.codeWith yL_forceAll cL_forceAll 3 (some .int) [(0, 8, 11, 13)] ∈ bigW := big_in (List.mem_of_getElem? (i := 307) (by decide +kernel)) rfl
theorem kw_294 : Cond.methodLink RL 105 yX1_forceAll ∈ bigW := big_in (List.mem_of_getElem? (i := 582) (by decide +kernel)) rfl
theorem kw_295 : Cond.instanceMethod yX1_forceAll ∈ bigW := big_in (List.mem_of_getElem? (i := 583) (by decide +kernel)) rfl
theorem kw_296 : Cond.selects RX1 yX1_forceAll yX1_forceAll ∈ bigW := big_in (List.mem_of_getElem? (i := 584) (by decide +kernel)) rfl
theorem kw_297 : Cond.code yX1_forceAll cX1_forceAll 1 (some .int) ∈ bigW := big_in (List.mem_of_getElem? (i := 585) (by decide +kernel)) rfl
theorem kw_298 : Cond.methodLink RL 106 yL_giveBack ∈ bigW := big_in (List.mem_of_getElem? (i := 312) (by decide +kernel)) rfl
theorem kw_299 : Cond.static yL_giveBack ∈ bigW := big_in (List.mem_of_getElem? (i := 313) (by decide +kernel)) rfl
theorem kw_300 : Cond.codeWith yL_giveBack cL_giveBack 4 (some .int) [(0, 9, 12, 13), (0, 9, 15, 30)] ∈ bigW := big_in (List.mem_of_getElem? (i := 314) (by decide +kernel)) rfl
theorem kw_301 : Cond.methodLink RL 108 yX1_giveBack ∈ bigW := big_in (List.mem_of_getElem? (i := 586) (by decide +kernel)) rfl
theorem kw_302 : Cond.instanceMethod yX1_giveBack ∈ bigW := big_in (List.mem_of_getElem? (i := 587) (by decide +kernel)) rfl
theorem kw_303 : Cond.selects RX1 yX1_giveBack yX1_giveBack ∈ bigW := big_in (List.mem_of_getElem? (i := 588) (by decide +kernel)) rfl
theorem kw_304 : Cond.code yX1_giveBack cX1_giveBack 4 (some .int) ∈ bigW := big_in (List.mem_of_getElem? (i := 589) (by decide +kernel)) rfl
theorem kw_305 : Cond.methodLink RL 109 yL_first ∈ bigW := big_in (List.mem_of_getElem? (i := 320) (by decide +kernel)) rfl
theorem kw_306 : Cond.static yL_first ∈ bigW := big_in (List.mem_of_getElem? (i := 321) (by decide +kernel)) rfl
theorem kw_307 : Cond.codeWith yL_first cL_first 3 (some .int) [(0, 8, 11, 13)] ∈ bigW := big_in (List.mem_of_getElem? (i := 322) (by decide +kernel)) rfl
theorem kw_308 : Cond.methodLink RL 111 yX1_first ∈ bigW := big_in (List.mem_of_getElem? (i := 590) (by decide +kernel)) rfl
theorem kw_309 : Cond.instanceMethod yX1_first ∈ bigW := big_in (List.mem_of_getElem? (i := 591) (by decide +kernel)) rfl
theorem kw_310 : Cond.selects RX1 yX1_first yX1_first ∈ bigW := big_in (List.mem_of_getElem? (i := 592) (by decide +kernel)) rfl
theorem kw_311 : Cond.code yX1_first cX1_first 1 (some .int) ∈ bigW := big_in (List.mem_of_getElem? (i := 593) (by decide +kernel)) rfl
theorem kw_312 : Cond.methodLink RL 112 yL_last ∈ bigW := big_in (List.mem_of_getElem? (i := 331) (by decide +kernel)) rfl
theorem kw_313 : Cond.static yL_last ∈ bigW := big_in (List.mem_of_getElem? (i := 332) (by decide +kernel)) rfl
theorem kw_314 : Cond.codeWith yL_last cL_last 3 (some .int) [(0, 8, 11, 13)] ∈ bigW := big_in (List.mem_of_getElem? (i := 333) (by decide +kernel)) rfl
theorem kw_315 : Cond.methodLink RL 114 yX1_last ∈ bigW := big_in (List.mem_of_getElem? (i := 598) (by decide +kernel)) rfl
theorem kw_316 : Cond.instanceMethod yX1_last ∈ bigW := big_in (List.mem_of_getElem? (i := 599) (by decide +kernel)) rfl
theorem kw_317 : Cond.selects RX1 yX1_last yX1_last ∈ bigW := big_in (List.mem_of_getElem? (i := 600) (by decide +kernel)) rfl
theorem kw_318 : Cond.code yX1_last cX1_last 1 (some .int) ∈ bigW := big_in (List.mem_of_getElem? (i := 601) (by decide +kernel)) rfl
theorem kw_319 : Cond.methodLink RL 115 yL_lastForced ∈ bigW := big_in (List.mem_of_getElem? (i := 338) (by decide +kernel)) rfl
theorem kw_320 : Cond.static yL_lastForced ∈ bigW := big_in (List.mem_of_getElem? (i := 339) (by decide +kernel)) rfl
theorem kw_321 : Cond.codeWith yL_lastForced cL_lastForced 3 (some .int) [(0, 8, 11, 13)] ∈ bigW := big_in (List.mem_of_getElem? (i := 340) (by decide +kernel)) rfl
theorem kw_322 : Cond.methodLink RL 117 yX1_lastForced ∈ bigW := big_in (List.mem_of_getElem? (i := 602) (by decide +kernel)) rfl
theorem kw_323 : Cond.instanceMethod yX1_lastForced ∈ bigW := big_in (List.mem_of_getElem? (i := 603) (by decide +kernel)) rfl
theorem kw_324 : Cond.selects RX1 yX1_lastForced yX1_lastForced ∈ bigW := big_in (List.mem_of_getElem? (i := 604) (by decide +kernel)) rfl
theorem kw_325 : Cond.code yX1_lastForced cX1_lastForced 1 (some .int) ∈ bigW := big_in (List.mem_of_getElem? (i := 605) (by decide +kernel)) rfl
theorem kw_326 : Cond.methodLink RL 118 yL_next ∈ bigW := big_in (List.mem_of_getElem? (i := 345) (by decide +kernel)) rfl
theorem kw_327 : Cond.static yL_next ∈ bigW := big_in (List.mem_of_getElem? (i := 346) (by decide +kernel)) rfl
theorem kw_328 : Cond.codeWith yL_next cL_next 4 (some .int) [(0, 9, 12, 13), (0, 9, 15, 30)] ∈ bigW := big_in (List.mem_of_getElem? (i := 347) (by decide +kernel)) rfl
theorem kw_329 : Cond.methodLink RL 120 yX1_next ∈ bigW := big_in (List.mem_of_getElem? (i := 606) (by decide +kernel)) rfl
theorem kw_330 : Cond.instanceMethod yX1_next ∈ bigW := big_in (List.mem_of_getElem? (i := 607) (by decide +kernel)) rfl
theorem kw_331 : Cond.selects RX1 yX1_next yX1_next ∈ bigW := big_in (List.mem_of_getElem? (i := 608) (by decide +kernel)) rfl
theorem kw_332 : Cond.code yX1_next cX1_next 3 (some .int) ∈ bigW := big_in (List.mem_of_getElem? (i := 609) (by decide +kernel)) rfl
theorem kw_333 : Cond.methodLink RL 121 yL_before ∈ bigW := big_in (List.mem_of_getElem? (i := 352) (by decide +kernel)) rfl
theorem kw_334 : Cond.static yL_before ∈ bigW := big_in (List.mem_of_getElem? (i := 353) (by decide +kernel)) rfl
theorem kw_335 : Cond.codeWith yL_before cL_before 4 (some .int) [(0, 9, 12, 13), (0, 9, 15, 30)] ∈ bigW := big_in (List.mem_of_getElem? (i := 354) (by decide +kernel)) rfl
theorem kw_336 : Cond.methodLink RL 123 yX1_before ∈ bigW := big_in (List.mem_of_getElem? (i := 610) (by decide +kernel)) rfl
theorem kw_337 : Cond.instanceMethod yX1_before ∈ bigW := big_in (List.mem_of_getElem? (i := 611) (by decide +kernel)) rfl
theorem kw_338 : Cond.selects RX1 yX1_before yX1_before ∈ bigW := big_in (List.mem_of_getElem? (i := 612) (by decide +kernel)) rfl
theorem kw_339 : Cond.code yX1_before cX1_before 3 (some .int) ∈ bigW := big_in (List.mem_of_getElem? (i := 613) (by decide +kernel)) rfl
theorem kw_340 : Cond.methodLink RL 124 yL_lastOf ∈ bigW := big_in (List.mem_of_getElem? (i := 359) (by decide +kernel)) rfl
theorem kw_341 : Cond.static yL_lastOf ∈ bigW := big_in (List.mem_of_getElem? (i := 360) (by decide +kernel)) rfl
theorem kw_342 : Cond.codeWith yL_lastOf cL_lastOf 4 (some .int) [(0, 9, 12, 13), (0, 9, 15, 24)] ∈ bigW := big_in (List.mem_of_getElem? (i := 361) (by decide +kernel)) rfl
theorem kw_343 : Cond.methodLink RL 126 yX1_lastOf ∈ bigW := big_in (List.mem_of_getElem? (i := 614) (by decide +kernel)) rfl
theorem kw_344 : Cond.instanceMethod yX1_lastOf ∈ bigW := big_in (List.mem_of_getElem? (i := 615) (by decide +kernel)) rfl
theorem kw_345 : Cond.selects RX1 yX1_lastOf yX1_lastOf ∈ bigW := big_in (List.mem_of_getElem? (i := 616) (by decide +kernel)) rfl
theorem kw_346 : Cond.code yX1_lastOf cX1_lastOf 2 (some .int) ∈ bigW := big_in (List.mem_of_getElem? (i := 617) (by decide +kernel)) rfl
theorem kw_347 : Cond.methodLink RL 127 yL_of ∈ bigW := big_in (List.mem_of_getElem? (i := 366) (by decide +kernel)) rfl
theorem kw_348 : Cond.static yL_of ∈ bigW := big_in (List.mem_of_getElem? (i := 367) (by decide +kernel)) rfl
theorem kw_349 : Cond.codeWith yL_of cL_of 5 (some .int) [(0, 10, 13, 13), (0, 10, 17, 30), (0, 10, 21, 15)] ∈ bigW := big_in (List.mem_of_getElem? (i := 368) (by decide +kernel)) rfl
theorem kw_350 : Cond.methodLink RL 130 yX1_of ∈ bigW := big_in (List.mem_of_getElem? (i := 618) (by decide +kernel)) rfl
theorem kw_351 : Cond.instanceMethod yX1_of ∈ bigW := big_in (List.mem_of_getElem? (i := 619) (by decide +kernel)) rfl
theorem kw_352 : Cond.selects RX1 yX1_of yX1_of ∈ bigW := big_in (List.mem_of_getElem? (i := 620) (by decide +kernel)) rfl
theorem kw_353 : Cond.code yX1_of cX1_of 4 (some .int) ∈ bigW := big_in (List.mem_of_getElem? (i := 621) (by decide +kernel)) rfl
theorem kw_354 : Cond.methodLink RL 131 yX1_thrown ∈ bigW := big_in (List.mem_of_getElem? (i := 511) (by decide +kernel)) rfl
theorem kw_355 : Cond.instanceMethod yX1_thrown ∈ bigW := big_in (List.mem_of_getElem? (i := 512) (by decide +kernel)) rfl
theorem kw_356 : Cond.selects RX1 yX1_thrown yX1_thrown ∈ bigW := big_in (List.mem_of_getElem? (i := 513) (by decide +kernel)) rfl
theorem kw_357 : Cond.code yX1_thrown cX1_thrown 1 (some .int) ∈ bigW := big_in (List.mem_of_getElem? (i := 514) (by decide +kernel)) rfl
theorem kw_358 : Cond.methodLink RL 134 yL_word ∈ bigW := big_in (List.mem_of_getElem? (i := 382) (by decide +kernel)) rfl
theorem kw_359 : Cond.static yL_word ∈ bigW := big_in (List.mem_of_getElem? (i := 383) (by decide +kernel)) rfl
theorem kw_360 : Cond.codeWith yL_word cL_word 5 (some .int) [(0, 10, 13, 13), (0, 10, 17, 30), (0, 10, 21, 15)] ∈ bigW := big_in (List.mem_of_getElem? (i := 384) (by decide +kernel)) rfl
theorem kw_361 : Cond.methodLink RL 136 yX1_word ∈ bigW := big_in (List.mem_of_getElem? (i := 622) (by decide +kernel)) rfl
theorem kw_362 : Cond.instanceMethod yX1_word ∈ bigW := big_in (List.mem_of_getElem? (i := 623) (by decide +kernel)) rfl
theorem kw_363 : Cond.selects RX1 yX1_word yX1_word ∈ bigW := big_in (List.mem_of_getElem? (i := 624) (by decide +kernel)) rfl
theorem kw_364 : Cond.code yX1_word cX1_word 4 (some .int) ∈ bigW := big_in (List.mem_of_getElem? (i := 625) (by decide +kernel)) rfl
theorem kw_365 : Cond.methodLink RL 137 yL_back ∈ bigW := big_in (List.mem_of_getElem? (i := 390) (by decide +kernel)) rfl
theorem kw_366 : Cond.static yL_back ∈ bigW := big_in (List.mem_of_getElem? (i := 391) (by decide +kernel)) rfl
theorem kw_367 : Cond.codeWith yL_back cL_back 6 (some .int) [(0, 12, 15, 13), (0, 12, 19, 24)] ∈ bigW := big_in (List.mem_of_getElem? (i := 392) (by decide +kernel)) rfl
theorem kw_368 : Cond.methodLink RL 140 yX1_back ∈ bigW := big_in (List.mem_of_getElem? (i := 626) (by decide +kernel)) rfl
theorem kw_369 : Cond.instanceMethod yX1_back ∈ bigW := big_in (List.mem_of_getElem? (i := 627) (by decide +kernel)) rfl
theorem kw_370 : Cond.selects RX1 yX1_back yX1_back ∈ bigW := big_in (List.mem_of_getElem? (i := 628) (by decide +kernel)) rfl
theorem kw_371 : Cond.code yX1_back cX1_back 7 (some .int) ∈ bigW := big_in (List.mem_of_getElem? (i := 629) (by decide +kernel)) rfl
theorem kw_372 : Cond.methodLink RL 141 yL_count ∈ bigW := big_in (List.mem_of_getElem? (i := 410) (by decide +kernel)) rfl
theorem kw_373 : Cond.static yL_count ∈ bigW := big_in (List.mem_of_getElem? (i := 411) (by decide +kernel)) rfl
theorem kw_374 : Cond.codeWith yL_count cL_count 3 (some .int) [(0, 8, 11, 13)] ∈ bigW := big_in (List.mem_of_getElem? (i := 412) (by decide +kernel)) rfl
theorem kw_375 : Cond.methodLink RL 143 yX1_count ∈ bigW := big_in (List.mem_of_getElem? (i := 630) (by decide +kernel)) rfl
theorem kw_376 : Cond.instanceMethod yX1_count ∈ bigW := big_in (List.mem_of_getElem? (i := 631) (by decide +kernel)) rfl
theorem kw_377 : Cond.selects RX1 yX1_count yX1_count ∈ bigW := big_in (List.mem_of_getElem? (i := 632) (by decide +kernel)) rfl
theorem kw_378 : Cond.code yX1_count cX1_count 3 (some .int) ∈ bigW := big_in (List.mem_of_getElem? (i := 633) (by decide +kernel)) rfl
theorem kw_379 : Cond.methodLink RL 144 yL_log ∈ bigW := big_in (List.mem_of_getElem? (i := 417) (by decide +kernel)) rfl
theorem kw_380 : Cond.static yL_log ∈ bigW := big_in (List.mem_of_getElem? (i := 418) (by decide +kernel)) rfl
theorem kw_381 : Cond.codeWith yL_log cL_log 4 (some .int) [(0, 9, 12, 15)] ∈ bigW := big_in (List.mem_of_getElem? (i := 419) (by decide +kernel)) rfl
theorem kw_382 : Cond.methodLink RL 146 yX1_log ∈ bigW := big_in (List.mem_of_getElem? (i := 634) (by decide +kernel)) rfl
theorem kw_383 : Cond.instanceMethod yX1_log ∈ bigW := big_in (List.mem_of_getElem? (i := 635) (by decide +kernel)) rfl
theorem kw_384 : Cond.selects RX1 yX1_log yX1_log ∈ bigW := big_in (List.mem_of_getElem? (i := 636) (by decide +kernel)) rfl
theorem kw_385 : Cond.code yX1_log cX1_log 2 (some .int) ∈ bigW := big_in (List.mem_of_getElem? (i := 637) (by decide +kernel)) rfl
theorem kw_386 : Cond.methodLink RL 147 yL_cutAfter ∈ bigW := big_in (List.mem_of_getElem? (i := 425) (by decide +kernel)) rfl
theorem kw_387 : Cond.static yL_cutAfter ∈ bigW := big_in (List.mem_of_getElem? (i := 426) (by decide +kernel)) rfl
theorem kw_388 : Cond.codeWith yL_cutAfter cL_cutAfter 3 (some .int) [(0, 5, 8, 24)] ∈ bigW := big_in (List.mem_of_getElem? (i := 427) (by decide +kernel)) rfl
theorem kw_389 : Cond.methodLink RL 150 yX1_cutAfter ∈ bigW := big_in (List.mem_of_getElem? (i := 515) (by decide +kernel)) rfl
theorem kw_390 : Cond.instanceMethod yX1_cutAfter ∈ bigW := big_in (List.mem_of_getElem? (i := 516) (by decide +kernel)) rfl
theorem kw_391 : Cond.selects RX1 yX1_cutAfter yX1_cutAfter ∈ bigW := big_in (List.mem_of_getElem? (i := 517) (by decide +kernel)) rfl
theorem kw_392 : Cond.code yX1_cutAfter cX1_cutAfter 2 none ∈ bigW := big_in (List.mem_of_getElem? (i := 518) (by decide +kernel)) rfl
theorem kw_393 : Cond.methodLink RL 151 yX0_cut ∈ bigW := big_in (List.mem_of_getElem? (i := 75) (by decide +kernel)) rfl
theorem kw_394 : Cond.instanceMethod yX0_cut ∈ bigW := big_in (List.mem_of_getElem? (i := 76) (by decide +kernel)) rfl
theorem kw_395 : Cond.selects RX0 yX0_cut yX0_cut ∈ bigW := big_in (List.mem_of_getElem? (i := 77) (by decide +kernel)) rfl
theorem kw_396 : Cond.code yX0_cut cX0_cut 1 (some .boolean) ∈ bigW := big_in (List.mem_of_getElem? (i := 78) (by decide +kernel)) rfl
theorem kw_397 : Cond.methodLink RL 155 yX1_cut ∈ bigW := big_in (List.mem_of_getElem? (i := 523) (by decide +kernel)) rfl
theorem kw_398 : Cond.instanceMethod yX1_cut ∈ bigW := big_in (List.mem_of_getElem? (i := 524) (by decide +kernel)) rfl
theorem kw_399 : Cond.selects RX1 yX1_cut yX1_cut ∈ bigW := big_in (List.mem_of_getElem? (i := 525) (by decide +kernel)) rfl
theorem kw_400 : Cond.code yX1_cut cX1_cut 1 (some .boolean) ∈ bigW := big_in (List.mem_of_getElem? (i := 526) (by decide +kernel)) rfl
theorem kw_401 : Cond.methodLink RL 156 yL_open ∈ bigW := big_in (List.mem_of_getElem? (i := 433) (by decide +kernel)) rfl
theorem kw_402 : Cond.static yL_open ∈ bigW := big_in (List.mem_of_getElem? (i := 434) (by decide +kernel)) rfl
theorem kw_403 : Cond.codeWith yL_open cL_open 3 (some .int) [(0, 8, 11, 13)] ∈ bigW := big_in (List.mem_of_getElem? (i := 435) (by decide +kernel)) rfl
theorem kw_404 : Cond.methodLink RL 158 yX1_open ∈ bigW := big_in (List.mem_of_getElem? (i := 539) (by decide +kernel)) rfl
theorem kw_405 : Cond.instanceMethod yX1_open ∈ bigW := big_in (List.mem_of_getElem? (i := 540) (by decide +kernel)) rfl
theorem kw_406 : Cond.selects RX1 yX1_open yX1_open ∈ bigW := big_in (List.mem_of_getElem? (i := 541) (by decide +kernel)) rfl
theorem kw_407 : Cond.code yX1_open cX1_open 2 (some .int) ∈ bigW := big_in (List.mem_of_getElem? (i := 542) (by decide +kernel)) rfl
theorem kw_408 : Cond.methodLink RL 159 yX0_isOpen ∈ bigW := big_in (List.mem_of_getElem? (i := 87) (by decide +kernel)) rfl
theorem kw_409 : Cond.instanceMethod yX0_isOpen ∈ bigW := big_in (List.mem_of_getElem? (i := 88) (by decide +kernel)) rfl
theorem kw_410 : Cond.selects RX0 yX0_isOpen yX0_isOpen ∈ bigW := big_in (List.mem_of_getElem? (i := 89) (by decide +kernel)) rfl
theorem kw_411 : Cond.code yX0_isOpen cX0_isOpen 1 (some .boolean) ∈ bigW := big_in (List.mem_of_getElem? (i := 90) (by decide +kernel)) rfl
theorem kw_412 : Cond.methodLink RL 162 yX1_isOpen ∈ bigW := big_in (List.mem_of_getElem? (i := 535) (by decide +kernel)) rfl
theorem kw_413 : Cond.instanceMethod yX1_isOpen ∈ bigW := big_in (List.mem_of_getElem? (i := 536) (by decide +kernel)) rfl
theorem kw_414 : Cond.selects RX1 yX1_isOpen yX1_isOpen ∈ bigW := big_in (List.mem_of_getElem? (i := 537) (by decide +kernel)) rfl
theorem kw_415 : Cond.code yX1_isOpen cX1_isOpen 1 (some .boolean) ∈ bigW := big_in (List.mem_of_getElem? (i := 538) (by decide +kernel)) rfl
theorem kw_416 : Cond.instantiable RX0 7 ∈ bigW := big_in (List.mem_of_getElem? (i := 44) (by decide +kernel)) rfl
theorem kw_417 : Cond.instantiable RX1 19 ∈ bigW := big_in (List.mem_of_getElem? (i := 446) (by decide +kernel)) rfl
theorem kw_418 : Cond.classLink RL 8 RX0 ∈ bigW := big_in (List.mem_of_getElem? (i := 43) (by decide +kernel)) rfl
theorem kw_419 : Cond.code yX0_init cX0_init 1 none ∈ bigW := big_in (List.mem_of_getElem? (i := 47) (by decide +kernel)) rfl
theorem kw_420 : Cond.methodLink RL 81 yX0_init ∈ bigW := big_in (List.mem_of_getElem? (i := 45) (by decide +kernel)) rfl
theorem kw_421 : Cond.instanceMethod yX0_init ∈ bigW := big_in (List.mem_of_getElem? (i := 46) (by decide +kernel)) rfl
theorem kw_422 : Cond.classLink RL 82 RX1 ∈ bigW := big_in (List.mem_of_getElem? (i := 445) (by decide +kernel)) rfl
theorem kw_423 : Cond.code yX1_init cX1_init 1 none ∈ bigW := big_in (List.mem_of_getElem? (i := 449) (by decide +kernel)) rfl
theorem kw_424 : Cond.methodLink RL 84 yX1_init ∈ bigW := big_in (List.mem_of_getElem? (i := 447) (by decide +kernel)) rfl
theorem kw_425 : Cond.instanceMethod yX1_init ∈ bigW := big_in (List.mem_of_getElem? (i := 448) (by decide +kernel)) rfl
theorem kw_426 : Cond.arrayClass .long ∈ bigW := big_in (List.mem_of_getElem? (i := 638) (by decide +kernel)) rfl
theorem g_RL_85 : GoodIn bigW (va_wsS RL 85 yL_set wsL_set) := gS kw_262 kw_263 kw_264 kw_265
theorem g_RL_90 : GoodIn bigW (wsV RL 90 RX1 yX1_set wsX1_set) := gV kw_266 kw_267 kw_268 kw_126 kw_269
theorem g_RL_91 : GoodIn bigW (va_wsS RL 91 yL_fill wsL_fill) := gS kw_270 kw_271 kw_264 kw_272
theorem g_RL_93 : GoodIn bigW (wsV RL 93 RX1 yX1_fill wsX1_fill) := gV kw_273 kw_274 kw_275 kw_126 kw_276
theorem g_RL_94 : GoodIn bigW (va_wsS RL 94 yL_append wsL_append) := gS kw_277 kw_278 kw_264 kw_279
theorem g_RL_97 : GoodIn bigW (wsV RL 97 RX1 yX1_append wsX1_append) := gV kw_280 kw_281 kw_282 kw_126 kw_283
theorem g_RL_98 : GoodIn bigW (va_wsS RL 98 yL_force wsL_force) := gS kw_284 kw_285 kw_264 kw_286
theorem g_RL_101 : GoodIn bigW (wsV RL 101 RX1 yX1_force wsX1_force) := gV kw_287 kw_288 kw_289 kw_126 kw_290
theorem g_RL_102 : GoodIn bigW (va_wsS RL 102 yL_forceAll wsL_forceAll) := gS kw_291 kw_292 kw_264 kw_293
theorem g_RL_105 : GoodIn bigW (wsV RL 105 RX1 yX1_forceAll wsX1_forceAll) := gV kw_294 kw_295 kw_296 kw_126 kw_297
theorem g_RL_106 : GoodIn bigW (va_wsS RL 106 yL_giveBack wsL_giveBack) := gS kw_298 kw_299 kw_264 kw_300
theorem g_RL_108 : GoodIn bigW (wsV RL 108 RX1 yX1_giveBack wsX1_giveBack) := gV kw_301 kw_302 kw_303 kw_126 kw_304
theorem g_RL_109 : GoodIn bigW (va_wsS RL 109 yL_first wsL_first) := gS kw_305 kw_306 kw_264 kw_307
theorem g_RL_111 : GoodIn bigW (wsV RL 111 RX1 yX1_first wsX1_first) := gV kw_308 kw_309 kw_310 kw_126 kw_311
theorem g_RL_112 : GoodIn bigW (va_wsS RL 112 yL_last wsL_last) := gS kw_312 kw_313 kw_264 kw_314
theorem g_RL_114 : GoodIn bigW (wsV RL 114 RX1 yX1_last wsX1_last) := gV kw_315 kw_316 kw_317 kw_126 kw_318
theorem g_RL_115 : GoodIn bigW (va_wsS RL 115 yL_lastForced wsL_lastForced) := gS kw_319 kw_320 kw_264 kw_321
theorem g_RL_117 : GoodIn bigW (wsV RL 117 RX1 yX1_lastForced wsX1_lastForced) := gV kw_322 kw_323 kw_324 kw_126 kw_325
theorem g_RL_118 : GoodIn bigW (va_wsS RL 118 yL_next wsL_next) := gS kw_326 kw_327 kw_264 kw_328
theorem g_RL_120 : GoodIn bigW (wsV RL 120 RX1 yX1_next wsX1_next) := gV kw_329 kw_330 kw_331 kw_126 kw_332
theorem g_RL_121 : GoodIn bigW (va_wsS RL 121 yL_before wsL_before) := gS kw_333 kw_334 kw_264 kw_335
theorem g_RL_123 : GoodIn bigW (wsV RL 123 RX1 yX1_before wsX1_before) := gV kw_336 kw_337 kw_338 kw_126 kw_339
theorem g_RL_124 : GoodIn bigW (va_wsS RL 124 yL_lastOf wsL_lastOf) := gS kw_340 kw_341 kw_264 kw_342
theorem g_RL_126 : GoodIn bigW (wsV RL 126 RX1 yX1_lastOf wsX1_lastOf) := gV kw_343 kw_344 kw_345 kw_126 kw_346
theorem g_RL_127 : GoodIn bigW (va_wsS RL 127 yL_of wsL_of) := gS kw_347 kw_348 kw_264 kw_349
theorem g_RL_130 : GoodIn bigW (wsV RL 130 RX1 yX1_of wsX1_of) := gV kw_350 kw_351 kw_352 kw_126 kw_353
theorem g_RL_131 : GoodIn bigW (wsV RL 131 RX1 yX1_thrown wsX1_thrown) := gV kw_354 kw_355 kw_356 kw_126 kw_357
theorem g_RL_134 : GoodIn bigW (va_wsS RL 134 yL_word wsL_word) := gS kw_358 kw_359 kw_264 kw_360
theorem g_RL_136 : GoodIn bigW (wsV RL 136 RX1 yX1_word wsX1_word) := gV kw_361 kw_362 kw_363 kw_126 kw_364
theorem g_RL_137 : GoodIn bigW (va_wsS RL 137 yL_back wsL_back) := gS kw_365 kw_366 kw_264 kw_367
theorem g_RL_140 : GoodIn bigW (wsV RL 140 RX1 yX1_back wsX1_back) := gV kw_368 kw_369 kw_370 kw_126 kw_371
theorem g_RL_141 : GoodIn bigW (va_wsS RL 141 yL_count wsL_count) := gS kw_372 kw_373 kw_264 kw_374
theorem g_RL_143 : GoodIn bigW (wsV RL 143 RX1 yX1_count wsX1_count) := gV kw_375 kw_376 kw_377 kw_126 kw_378
theorem g_RL_144 : GoodIn bigW (va_wsS RL 144 yL_log wsL_log) := gS kw_379 kw_380 kw_264 kw_381
theorem g_RL_146 : GoodIn bigW (wsV RL 146 RX1 yX1_log wsX1_log) := gV kw_382 kw_383 kw_384 kw_126 kw_385
theorem g_RL_147 : GoodIn bigW (va_wsS RL 147 yL_cutAfter wsL_cutAfter) := gS kw_386 kw_387 kw_264 kw_388
theorem g_RL_150 : GoodIn bigW (wsV RL 150 RX1 yX1_cutAfter wsX1_cutAfter) := gV kw_389 kw_390 kw_391 kw_126 kw_392
theorem g_RL_151 : GoodIn bigW (wsV RL 151 RX0 yX0_cut wsX0_cut) := gV kw_393 kw_394 kw_395 kw_6 kw_396
theorem g_RL_155 : GoodIn bigW (wsV RL 155 RX1 yX1_cut wsX1_cut) := gV kw_397 kw_398 kw_399 kw_126 kw_400
theorem g_RL_156 : GoodIn bigW (va_wsS RL 156 yL_open wsL_open) := gS kw_401 kw_402 kw_264 kw_403
theorem g_RL_158 : GoodIn bigW (wsV RL 158 RX1 yX1_open wsX1_open) := gV kw_404 kw_405 kw_406 kw_126 kw_407
theorem g_RL_159 : GoodIn bigW (wsV RL 159 RX0 yX0_isOpen wsX0_isOpen) := gV kw_408 kw_409 kw_410 kw_6 kw_411
theorem g_RL_162 : GoodIn bigW (wsV RL 162 RX1 yX1_isOpen wsX1_isOpen) := gV kw_412 kw_413 kw_414 kw_126 kw_415
theorem gI_X0_init : GoodIn bigW wsX0_init := gIn kw_419
theorem gI_X1_init : GoodIn bigW wsX1_init := gIn kw_423
