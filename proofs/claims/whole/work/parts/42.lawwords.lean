/-! words that the walks take of the tables -/
set_option maxRecDepth 100000 in
theorem mw_194 : Jvm.Cond.methodLink "SealedChainLaw" (13 : Nat) y_Ch_ask ∈ kmW := km_w 194 (by first | rfl | decide +kernel) (by first | rfl | decide +kernel)
set_option maxRecDepth 100000 in
theorem mw_195 : Jvm.Cond.instanceMethod y_Ch_ask ∈ kmW := km_w 195 (by first | rfl | decide +kernel) (by first | rfl | decide +kernel)
set_option maxRecDepth 100000 in
theorem mw_196 : Jvm.Cond.selects "SealedChain" y_Ch_ask y_Ch_ask ∈ kmW := km_w 196 (by first | rfl | decide +kernel) (by first | rfl | decide +kernel)
set_option maxRecDepth 100000 in
theorem mw_197 : Jvm.Cond.code y_Ch_ask prog_1_method_2_code (4 : Nat) (Option.some Jvm.ClassFile.FieldType.int) ∈ kmW := km_w 197 (by first | rfl | decide +kernel) (by first | rfl | decide +kernel)
set_option maxRecDepth 100000 in
theorem mw_218 : Jvm.Cond.methodLink "SealedChainLaw" (18 : Nat) y_Ch_route ∈ kmW := km_w 218 (by first | rfl | decide +kernel) (by first | rfl | decide +kernel)
set_option maxRecDepth 100000 in
theorem mw_219 : Jvm.Cond.instanceMethod y_Ch_route ∈ kmW := km_w 219 (by first | rfl | decide +kernel) (by first | rfl | decide +kernel)
set_option maxRecDepth 100000 in
theorem mw_220 : Jvm.Cond.selects "SealedChain" y_Ch_route y_Ch_route ∈ kmW := km_w 220 (by first | rfl | decide +kernel) (by first | rfl | decide +kernel)
set_option maxRecDepth 100000 in
theorem mw_221 : Jvm.Cond.code y_Ch_route prog_1_method_3_code (5 : Nat) (Option.some Jvm.ClassFile.FieldType.int) ∈ kmW := km_w 221 (by first | rfl | decide +kernel) (by first | rfl | decide +kernel)
set_option maxRecDepth 100000 in
theorem mw_237 : Jvm.Cond.methodLink "SealedChainLaw" (23 : Nat) y_Ch_router ∈ kmW := km_w 237 (by first | rfl | decide +kernel) (by first | rfl | decide +kernel)
set_option maxRecDepth 100000 in
theorem mw_238 : Jvm.Cond.instanceMethod y_Ch_router ∈ kmW := km_w 238 (by first | rfl | decide +kernel) (by first | rfl | decide +kernel)
set_option maxRecDepth 100000 in
theorem mw_239 : Jvm.Cond.selects "SealedChain" y_Ch_router y_Ch_router ∈ kmW := km_w 239 (by first | rfl | decide +kernel) (by first | rfl | decide +kernel)
set_option maxRecDepth 100000 in
theorem mw_240 : Jvm.Cond.code y_Ch_router prog_1_method_4_code (1 : Nat) (Option.some Jvm.ClassFile.FieldType.int) ∈ kmW := km_w 240 (by first | rfl | decide +kernel) (by first | rfl | decide +kernel)
set_option maxRecDepth 100000 in
theorem mw_241 : Jvm.Cond.methodLink "SealedChainLaw" (28 : Nat) y_Ch_start ∈ kmW := km_w 241 (by first | rfl | decide +kernel) (by first | rfl | decide +kernel)
set_option maxRecDepth 100000 in
theorem mw_242 : Jvm.Cond.instanceMethod y_Ch_start ∈ kmW := km_w 242 (by first | rfl | decide +kernel) (by first | rfl | decide +kernel)
set_option maxRecDepth 100000 in
theorem mw_243 : Jvm.Cond.selects "SealedChain" y_Ch_start y_Ch_start ∈ kmW := km_w 243 (by first | rfl | decide +kernel) (by first | rfl | decide +kernel)
set_option maxRecDepth 100000 in
theorem mw_244 : Jvm.Cond.code y_Ch_start prog_1_method_5_code (4 : Nat) (Option.some Jvm.ClassFile.FieldType.int) ∈ kmW := km_w 244 (by first | rfl | decide +kernel) (by first | rfl | decide +kernel)
set_option maxRecDepth 100000 in
theorem mw_267 : Jvm.Cond.methodLink "SealedChainLaw" (32 : Nat) y_Ch_promise ∈ kmW := km_w 267 (by first | rfl | decide +kernel) (by first | rfl | decide +kernel)
set_option maxRecDepth 100000 in
theorem mw_268 : Jvm.Cond.instanceMethod y_Ch_promise ∈ kmW := km_w 268 (by first | rfl | decide +kernel) (by first | rfl | decide +kernel)
set_option maxRecDepth 100000 in
theorem mw_269 : Jvm.Cond.selects "SealedChain" y_Ch_promise y_Ch_promise ∈ kmW := km_w 269 (by first | rfl | decide +kernel) (by first | rfl | decide +kernel)
set_option maxRecDepth 100000 in
theorem mw_270 : Jvm.Cond.code y_Ch_promise prog_1_method_6_code (8 : Nat) (Option.some Jvm.ClassFile.FieldType.int) ∈ kmW := km_w 270 (by first | rfl | decide +kernel) (by first | rfl | decide +kernel)
set_option maxRecDepth 100000 in
theorem mw_315 : Jvm.Cond.methodLink "SealedChainLaw" (37 : Nat) y_Ch_accept ∈ kmW := km_w 315 (by first | rfl | decide +kernel) (by first | rfl | decide +kernel)
set_option maxRecDepth 100000 in
theorem mw_316 : Jvm.Cond.instanceMethod y_Ch_accept ∈ kmW := km_w 316 (by first | rfl | decide +kernel) (by first | rfl | decide +kernel)
set_option maxRecDepth 100000 in
theorem mw_317 : Jvm.Cond.selects "SealedChain" y_Ch_accept y_Ch_accept ∈ kmW := km_w 317 (by first | rfl | decide +kernel) (by first | rfl | decide +kernel)
set_option maxRecDepth 100000 in
theorem mw_318 : Jvm.Cond.code y_Ch_accept prog_1_method_7_code (8 : Nat) (Option.some Jvm.ClassFile.FieldType.int) ∈ kmW := km_w 318 (by first | rfl | decide +kernel) (by first | rfl | decide +kernel)
set_option maxRecDepth 100000 in
theorem mw_360 : Jvm.Cond.methodLink "SealedChainLaw" (41 : Nat) y_Ch_tell ∈ kmW := km_w 360 (by first | rfl | decide +kernel) (by first | rfl | decide +kernel)
set_option maxRecDepth 100000 in
theorem mw_361 : Jvm.Cond.instanceMethod y_Ch_tell ∈ kmW := km_w 361 (by first | rfl | decide +kernel) (by first | rfl | decide +kernel)
set_option maxRecDepth 100000 in
theorem mw_362 : Jvm.Cond.selects "SealedChain" y_Ch_tell y_Ch_tell ∈ kmW := km_w 362 (by first | rfl | decide +kernel) (by first | rfl | decide +kernel)
set_option maxRecDepth 100000 in
theorem mw_363 : Jvm.Cond.code y_Ch_tell prog_1_method_8_code (7 : Nat) (Option.some Jvm.ClassFile.FieldType.int) ∈ kmW := km_w 363 (by first | rfl | decide +kernel) (by first | rfl | decide +kernel)
set_option maxRecDepth 100000 in
theorem mw_369 : Jvm.Cond.methodLink "SealedChainLaw" (45 : Nat) y_Ch_crash ∈ kmW := km_w 369 (by first | rfl | decide +kernel) (by first | rfl | decide +kernel)
set_option maxRecDepth 100000 in
theorem mw_370 : Jvm.Cond.instanceMethod y_Ch_crash ∈ kmW := km_w 370 (by first | rfl | decide +kernel) (by first | rfl | decide +kernel)
set_option maxRecDepth 100000 in
theorem mw_371 : Jvm.Cond.selects "SealedChain" y_Ch_crash y_Ch_crash ∈ kmW := km_w 371 (by first | rfl | decide +kernel) (by first | rfl | decide +kernel)
set_option maxRecDepth 100000 in
theorem mw_372 : Jvm.Cond.code y_Ch_crash prog_1_method_9_code (2 : Nat) (Option.some Jvm.ClassFile.FieldType.boolean) ∈ kmW := km_w 372 (by first | rfl | decide +kernel) (by first | rfl | decide +kernel)
set_option maxRecDepth 100000 in
theorem mw_377 : Jvm.Cond.methodLink "SealedChainLaw" (50 : Nat) y_Ch_restart ∈ kmW := km_w 377 (by first | rfl | decide +kernel) (by first | rfl | decide +kernel)
set_option maxRecDepth 100000 in
theorem mw_378 : Jvm.Cond.instanceMethod y_Ch_restart ∈ kmW := km_w 378 (by first | rfl | decide +kernel) (by first | rfl | decide +kernel)
set_option maxRecDepth 100000 in
theorem mw_379 : Jvm.Cond.selects "SealedChain" y_Ch_restart y_Ch_restart ∈ kmW := km_w 379 (by first | rfl | decide +kernel) (by first | rfl | decide +kernel)
set_option maxRecDepth 100000 in
theorem mw_380 : Jvm.Cond.code y_Ch_restart prog_1_method_10_code (2 : Nat) (Option.some Jvm.ClassFile.FieldType.boolean) ∈ kmW := km_w 380 (by first | rfl | decide +kernel) (by first | rfl | decide +kernel)
set_option maxRecDepth 100000 in
theorem mw_381 : Jvm.Cond.methodLink "SealedChainLaw" (54 : Nat) y_Ch_retire ∈ kmW := km_w 381 (by first | rfl | decide +kernel) (by first | rfl | decide +kernel)
set_option maxRecDepth 100000 in
theorem mw_382 : Jvm.Cond.instanceMethod y_Ch_retire ∈ kmW := km_w 382 (by first | rfl | decide +kernel) (by first | rfl | decide +kernel)
set_option maxRecDepth 100000 in
theorem mw_383 : Jvm.Cond.selects "SealedChain" y_Ch_retire y_Ch_retire ∈ kmW := km_w 383 (by first | rfl | decide +kernel) (by first | rfl | decide +kernel)
set_option maxRecDepth 100000 in
theorem mw_384 : Jvm.Cond.code y_Ch_retire prog_1_method_11_code (4 : Nat) (Option.some Jvm.ClassFile.FieldType.int) ∈ kmW := km_w 384 (by first | rfl | decide +kernel) (by first | rfl | decide +kernel)
set_option maxRecDepth 100000 in
theorem mw_389 : Jvm.Cond.methodLink "SealedChainLaw" (59 : Nat) y_Ch_look ∈ kmW := km_w 389 (by first | rfl | decide +kernel) (by first | rfl | decide +kernel)
set_option maxRecDepth 100000 in
theorem mw_390 : Jvm.Cond.instanceMethod y_Ch_look ∈ kmW := km_w 390 (by first | rfl | decide +kernel) (by first | rfl | decide +kernel)
set_option maxRecDepth 100000 in
theorem mw_391 : Jvm.Cond.selects "SealedChain" y_Ch_look y_Ch_look ∈ kmW := km_w 391 (by first | rfl | decide +kernel) (by first | rfl | decide +kernel)
set_option maxRecDepth 100000 in
theorem mw_392 : Jvm.Cond.code y_Ch_look prog_1_method_12_code (4 : Nat) (Option.some Jvm.ClassFile.FieldType.int) ∈ kmW := km_w 392 (by first | rfl | decide +kernel) (by first | rfl | decide +kernel)
set_option maxRecDepth 100000 in
theorem mw_393 : Jvm.Cond.methodLink "SealedChainLaw" (63 : Nat) y_Ch_value ∈ kmW := km_w 393 (by first | rfl | decide +kernel) (by first | rfl | decide +kernel)
set_option maxRecDepth 100000 in
theorem mw_394 : Jvm.Cond.instanceMethod y_Ch_value ∈ kmW := km_w 394 (by first | rfl | decide +kernel) (by first | rfl | decide +kernel)
set_option maxRecDepth 100000 in
theorem mw_395 : Jvm.Cond.selects "SealedChain" y_Ch_value y_Ch_value ∈ kmW := km_w 395 (by first | rfl | decide +kernel) (by first | rfl | decide +kernel)
set_option maxRecDepth 100000 in
theorem mw_396 : Jvm.Cond.code y_Ch_value prog_1_method_13_code (3 : Nat) (Option.some Jvm.ClassFile.FieldType.int) ∈ kmW := km_w 396 (by first | rfl | decide +kernel) (by first | rfl | decide +kernel)
set_option maxRecDepth 100000 in
theorem mw_397 : Jvm.Cond.methodLink "SealedChainLaw" (67 : Nat) y_Ch_promised ∈ kmW := km_w 397 (by first | rfl | decide +kernel) (by first | rfl | decide +kernel)
set_option maxRecDepth 100000 in
theorem mw_398 : Jvm.Cond.instanceMethod y_Ch_promised ∈ kmW := km_w 398 (by first | rfl | decide +kernel) (by first | rfl | decide +kernel)
set_option maxRecDepth 100000 in
theorem mw_399 : Jvm.Cond.selects "SealedChain" y_Ch_promised y_Ch_promised ∈ kmW := km_w 399 (by first | rfl | decide +kernel) (by first | rfl | decide +kernel)
set_option maxRecDepth 100000 in
theorem mw_400 : Jvm.Cond.code y_Ch_promised prog_1_method_14_code (4 : Nat) (Option.some Jvm.ClassFile.FieldType.int) ∈ kmW := km_w 400 (by first | rfl | decide +kernel) (by first | rfl | decide +kernel)
set_option maxRecDepth 100000 in
theorem mw_405 : Jvm.Cond.methodLink "SealedChainLaw" (71 : Nat) y_Ch_vote ∈ kmW := km_w 405 (by first | rfl | decide +kernel) (by first | rfl | decide +kernel)
set_option maxRecDepth 100000 in
theorem mw_406 : Jvm.Cond.instanceMethod y_Ch_vote ∈ kmW := km_w 406 (by first | rfl | decide +kernel) (by first | rfl | decide +kernel)
set_option maxRecDepth 100000 in
theorem mw_407 : Jvm.Cond.selects "SealedChain" y_Ch_vote y_Ch_vote ∈ kmW := km_w 407 (by first | rfl | decide +kernel) (by first | rfl | decide +kernel)
set_option maxRecDepth 100000 in
theorem mw_408 : Jvm.Cond.code y_Ch_vote prog_1_method_15_code (6 : Nat) (Option.some Jvm.ClassFile.FieldType.int) ∈ kmW := km_w 408 (by first | rfl | decide +kernel) (by first | rfl | decide +kernel)
set_option maxRecDepth 100000 in
theorem mw_409 : Jvm.Cond.methodLink "SealedChainLaw" (75 : Nat) y_Ch_known ∈ kmW := km_w 409 (by first | rfl | decide +kernel) (by first | rfl | decide +kernel)
set_option maxRecDepth 100000 in
theorem mw_410 : Jvm.Cond.instanceMethod y_Ch_known ∈ kmW := km_w 410 (by first | rfl | decide +kernel) (by first | rfl | decide +kernel)
set_option maxRecDepth 100000 in
theorem mw_411 : Jvm.Cond.selects "SealedChain" y_Ch_known y_Ch_known ∈ kmW := km_w 411 (by first | rfl | decide +kernel) (by first | rfl | decide +kernel)
set_option maxRecDepth 100000 in
theorem mw_412 : Jvm.Cond.code y_Ch_known prog_1_method_16_code (3 : Nat) (Option.some Jvm.ClassFile.FieldType.int) ∈ kmW := km_w 412 (by first | rfl | decide +kernel) (by first | rfl | decide +kernel)
set_option maxRecDepth 100000 in
theorem mw_413 : Jvm.Cond.methodLink "SealedChainLaw" (79 : Nat) y_Ch_reply ∈ kmW := km_w 413 (by first | rfl | decide +kernel) (by first | rfl | decide +kernel)
set_option maxRecDepth 100000 in
theorem mw_414 : Jvm.Cond.instanceMethod y_Ch_reply ∈ kmW := km_w 414 (by first | rfl | decide +kernel) (by first | rfl | decide +kernel)
set_option maxRecDepth 100000 in
theorem mw_415 : Jvm.Cond.selects "SealedChain" y_Ch_reply y_Ch_reply ∈ kmW := km_w 415 (by first | rfl | decide +kernel) (by first | rfl | decide +kernel)
set_option maxRecDepth 100000 in
theorem mw_416 : Jvm.Cond.code y_Ch_reply prog_1_method_17_code (2 : Nat) (Option.some Jvm.ClassFile.FieldType.int) ∈ kmW := km_w 416 (by first | rfl | decide +kernel) (by first | rfl | decide +kernel)
set_option maxRecDepth 100000 in
theorem mw_417 : Jvm.Cond.methodLink "SealedChainLaw" (83 : Nat) y_Ch_heard ∈ kmW := km_w 417 (by first | rfl | decide +kernel) (by first | rfl | decide +kernel)
set_option maxRecDepth 100000 in
theorem mw_418 : Jvm.Cond.instanceMethod y_Ch_heard ∈ kmW := km_w 418 (by first | rfl | decide +kernel) (by first | rfl | decide +kernel)
set_option maxRecDepth 100000 in
theorem mw_419 : Jvm.Cond.selects "SealedChain" y_Ch_heard y_Ch_heard ∈ kmW := km_w 419 (by first | rfl | decide +kernel) (by first | rfl | decide +kernel)
set_option maxRecDepth 100000 in
theorem mw_420 : Jvm.Cond.code y_Ch_heard prog_1_method_18_code (2 : Nat) (Option.some Jvm.ClassFile.FieldType.int) ∈ kmW := km_w 420 (by first | rfl | decide +kernel) (by first | rfl | decide +kernel)
set_option maxRecDepth 100000 in
theorem mw_522 : Jvm.Cond.methodLink "SealedChainLaw" (17 : Nat) y_Md_ask ∈ kmW := km_w 522 (by first | rfl | decide +kernel) (by first | rfl | decide +kernel)
set_option maxRecDepth 100000 in
theorem mw_523 : Jvm.Cond.instanceMethod y_Md_ask ∈ kmW := km_w 523 (by first | rfl | decide +kernel) (by first | rfl | decide +kernel)
set_option maxRecDepth 100000 in
theorem mw_524 : Jvm.Cond.selects "SealedChainModel" y_Md_ask y_Md_ask ∈ kmW := km_w 524 (by first | rfl | decide +kernel) (by first | rfl | decide +kernel)
set_option maxRecDepth 100000 in
theorem mw_525 : Jvm.Cond.code y_Md_ask prog_8_method_15_code (4 : Nat) (Option.some Jvm.ClassFile.FieldType.int) ∈ kmW := km_w 525 (by first | rfl | decide +kernel) (by first | rfl | decide +kernel)
set_option maxRecDepth 100000 in
theorem mw_529 : Jvm.Cond.methodLink "SealedChainLaw" (22 : Nat) y_Md_route ∈ kmW := km_w 529 (by first | rfl | decide +kernel) (by first | rfl | decide +kernel)
set_option maxRecDepth 100000 in
theorem mw_530 : Jvm.Cond.instanceMethod y_Md_route ∈ kmW := km_w 530 (by first | rfl | decide +kernel) (by first | rfl | decide +kernel)
set_option maxRecDepth 100000 in
theorem mw_531 : Jvm.Cond.selects "SealedChainModel" y_Md_route y_Md_route ∈ kmW := km_w 531 (by first | rfl | decide +kernel) (by first | rfl | decide +kernel)
set_option maxRecDepth 100000 in
theorem mw_532 : Jvm.Cond.code y_Md_route prog_8_method_16_code (3 : Nat) (Option.some Jvm.ClassFile.FieldType.int) ∈ kmW := km_w 532 (by first | rfl | decide +kernel) (by first | rfl | decide +kernel)
set_option maxRecDepth 100000 in
theorem mw_556 : Jvm.Cond.methodLink "SealedChainLaw" (27 : Nat) y_Md_router ∈ kmW := km_w 556 (by first | rfl | decide +kernel) (by first | rfl | decide +kernel)
set_option maxRecDepth 100000 in
theorem mw_557 : Jvm.Cond.instanceMethod y_Md_router ∈ kmW := km_w 557 (by first | rfl | decide +kernel) (by first | rfl | decide +kernel)
set_option maxRecDepth 100000 in
theorem mw_558 : Jvm.Cond.selects "SealedChainModel" y_Md_router y_Md_router ∈ kmW := km_w 558 (by first | rfl | decide +kernel) (by first | rfl | decide +kernel)
set_option maxRecDepth 100000 in
theorem mw_559 : Jvm.Cond.code y_Md_router prog_8_method_17_code (1 : Nat) (Option.some Jvm.ClassFile.FieldType.int) ∈ kmW := km_w 559 (by first | rfl | decide +kernel) (by first | rfl | decide +kernel)
set_option maxRecDepth 100000 in
theorem mw_560 : Jvm.Cond.methodLink "SealedChainLaw" (31 : Nat) y_Md_start ∈ kmW := km_w 560 (by first | rfl | decide +kernel) (by first | rfl | decide +kernel)
set_option maxRecDepth 100000 in
theorem mw_561 : Jvm.Cond.instanceMethod y_Md_start ∈ kmW := km_w 561 (by first | rfl | decide +kernel) (by first | rfl | decide +kernel)
set_option maxRecDepth 100000 in
theorem mw_562 : Jvm.Cond.selects "SealedChainModel" y_Md_start y_Md_start ∈ kmW := km_w 562 (by first | rfl | decide +kernel) (by first | rfl | decide +kernel)
set_option maxRecDepth 100000 in
theorem mw_563 : Jvm.Cond.code y_Md_start prog_8_method_18_code (6 : Nat) (Option.some Jvm.ClassFile.FieldType.int) ∈ kmW := km_w 563 (by first | rfl | decide +kernel) (by first | rfl | decide +kernel)
set_option maxRecDepth 100000 in
theorem mw_569 : Jvm.Cond.methodLink "SealedChainLaw" (36 : Nat) y_Md_promise ∈ kmW := km_w 569 (by first | rfl | decide +kernel) (by first | rfl | decide +kernel)
set_option maxRecDepth 100000 in
theorem mw_570 : Jvm.Cond.instanceMethod y_Md_promise ∈ kmW := km_w 570 (by first | rfl | decide +kernel) (by first | rfl | decide +kernel)
set_option maxRecDepth 100000 in
theorem mw_571 : Jvm.Cond.selects "SealedChainModel" y_Md_promise y_Md_promise ∈ kmW := km_w 571 (by first | rfl | decide +kernel) (by first | rfl | decide +kernel)
set_option maxRecDepth 100000 in
theorem mw_572 : Jvm.Cond.code y_Md_promise prog_8_method_21_code (7 : Nat) (Option.some Jvm.ClassFile.FieldType.int) ∈ kmW := km_w 572 (by first | rfl | decide +kernel) (by first | rfl | decide +kernel)
set_option maxRecDepth 100000 in
theorem mw_597 : Jvm.Cond.methodLink "SealedChainLaw" (40 : Nat) y_Md_accept ∈ kmW := km_w 597 (by first | rfl | decide +kernel) (by first | rfl | decide +kernel)
set_option maxRecDepth 100000 in
theorem mw_598 : Jvm.Cond.instanceMethod y_Md_accept ∈ kmW := km_w 598 (by first | rfl | decide +kernel) (by first | rfl | decide +kernel)
set_option maxRecDepth 100000 in
theorem mw_599 : Jvm.Cond.selects "SealedChainModel" y_Md_accept y_Md_accept ∈ kmW := km_w 599 (by first | rfl | decide +kernel) (by first | rfl | decide +kernel)
set_option maxRecDepth 100000 in
theorem mw_600 : Jvm.Cond.code y_Md_accept prog_8_method_23_code (7 : Nat) (Option.some Jvm.ClassFile.FieldType.int) ∈ kmW := km_w 600 (by first | rfl | decide +kernel) (by first | rfl | decide +kernel)
set_option maxRecDepth 100000 in
theorem mw_609 : Jvm.Cond.methodLink "SealedChainLaw" (44 : Nat) y_Md_tell ∈ kmW := km_w 609 (by first | rfl | decide +kernel) (by first | rfl | decide +kernel)
set_option maxRecDepth 100000 in
theorem mw_610 : Jvm.Cond.instanceMethod y_Md_tell ∈ kmW := km_w 610 (by first | rfl | decide +kernel) (by first | rfl | decide +kernel)
set_option maxRecDepth 100000 in
theorem mw_611 : Jvm.Cond.selects "SealedChainModel" y_Md_tell y_Md_tell ∈ kmW := km_w 611 (by first | rfl | decide +kernel) (by first | rfl | decide +kernel)
set_option maxRecDepth 100000 in
theorem mw_612 : Jvm.Cond.code y_Md_tell prog_8_method_24_code (7 : Nat) (Option.some Jvm.ClassFile.FieldType.int) ∈ kmW := km_w 612 (by first | rfl | decide +kernel) (by first | rfl | decide +kernel)
set_option maxRecDepth 100000 in
theorem mw_613 : Jvm.Cond.methodLink "SealedChainLaw" (49 : Nat) y_Md_crash ∈ kmW := km_w 613 (by first | rfl | decide +kernel) (by first | rfl | decide +kernel)
set_option maxRecDepth 100000 in
theorem mw_614 : Jvm.Cond.instanceMethod y_Md_crash ∈ kmW := km_w 614 (by first | rfl | decide +kernel) (by first | rfl | decide +kernel)
set_option maxRecDepth 100000 in
theorem mw_615 : Jvm.Cond.selects "SealedChainModel" y_Md_crash y_Md_crash ∈ kmW := km_w 615 (by first | rfl | decide +kernel) (by first | rfl | decide +kernel)
set_option maxRecDepth 100000 in
theorem mw_616 : Jvm.Cond.code y_Md_crash prog_8_method_25_code (2 : Nat) (Option.some Jvm.ClassFile.FieldType.boolean) ∈ kmW := km_w 616 (by first | rfl | decide +kernel) (by first | rfl | decide +kernel)
set_option maxRecDepth 100000 in
theorem mw_617 : Jvm.Cond.methodLink "SealedChainLaw" (53 : Nat) y_Md_restart ∈ kmW := km_w 617 (by first | rfl | decide +kernel) (by first | rfl | decide +kernel)
set_option maxRecDepth 100000 in
theorem mw_618 : Jvm.Cond.instanceMethod y_Md_restart ∈ kmW := km_w 618 (by first | rfl | decide +kernel) (by first | rfl | decide +kernel)
set_option maxRecDepth 100000 in
theorem mw_619 : Jvm.Cond.selects "SealedChainModel" y_Md_restart y_Md_restart ∈ kmW := km_w 619 (by first | rfl | decide +kernel) (by first | rfl | decide +kernel)
set_option maxRecDepth 100000 in
theorem mw_620 : Jvm.Cond.code y_Md_restart prog_8_method_26_code (2 : Nat) (Option.some Jvm.ClassFile.FieldType.boolean) ∈ kmW := km_w 620 (by first | rfl | decide +kernel) (by first | rfl | decide +kernel)
set_option maxRecDepth 100000 in
theorem mw_621 : Jvm.Cond.methodLink "SealedChainLaw" (58 : Nat) y_Md_retire ∈ kmW := km_w 621 (by first | rfl | decide +kernel) (by first | rfl | decide +kernel)
set_option maxRecDepth 100000 in
theorem mw_622 : Jvm.Cond.instanceMethod y_Md_retire ∈ kmW := km_w 622 (by first | rfl | decide +kernel) (by first | rfl | decide +kernel)
set_option maxRecDepth 100000 in
theorem mw_623 : Jvm.Cond.selects "SealedChainModel" y_Md_retire y_Md_retire ∈ kmW := km_w 623 (by first | rfl | decide +kernel) (by first | rfl | decide +kernel)
set_option maxRecDepth 100000 in
theorem mw_624 : Jvm.Cond.code y_Md_retire prog_8_method_27_code (4 : Nat) (Option.some Jvm.ClassFile.FieldType.int) ∈ kmW := km_w 624 (by first | rfl | decide +kernel) (by first | rfl | decide +kernel)
set_option maxRecDepth 100000 in
theorem mw_625 : Jvm.Cond.methodLink "SealedChainLaw" (62 : Nat) y_Md_look ∈ kmW := km_w 625 (by first | rfl | decide +kernel) (by first | rfl | decide +kernel)
set_option maxRecDepth 100000 in
theorem mw_626 : Jvm.Cond.instanceMethod y_Md_look ∈ kmW := km_w 626 (by first | rfl | decide +kernel) (by first | rfl | decide +kernel)
set_option maxRecDepth 100000 in
theorem mw_627 : Jvm.Cond.selects "SealedChainModel" y_Md_look y_Md_look ∈ kmW := km_w 627 (by first | rfl | decide +kernel) (by first | rfl | decide +kernel)
set_option maxRecDepth 100000 in
theorem mw_628 : Jvm.Cond.code y_Md_look prog_8_method_28_code (4 : Nat) (Option.some Jvm.ClassFile.FieldType.int) ∈ kmW := km_w 628 (by first | rfl | decide +kernel) (by first | rfl | decide +kernel)
set_option maxRecDepth 100000 in
theorem mw_629 : Jvm.Cond.methodLink "SealedChainLaw" (66 : Nat) y_Md_value ∈ kmW := km_w 629 (by first | rfl | decide +kernel) (by first | rfl | decide +kernel)
set_option maxRecDepth 100000 in
theorem mw_630 : Jvm.Cond.instanceMethod y_Md_value ∈ kmW := km_w 630 (by first | rfl | decide +kernel) (by first | rfl | decide +kernel)
set_option maxRecDepth 100000 in
theorem mw_631 : Jvm.Cond.selects "SealedChainModel" y_Md_value y_Md_value ∈ kmW := km_w 631 (by first | rfl | decide +kernel) (by first | rfl | decide +kernel)
set_option maxRecDepth 100000 in
theorem mw_632 : Jvm.Cond.code y_Md_value prog_8_method_29_code (3 : Nat) (Option.some Jvm.ClassFile.FieldType.int) ∈ kmW := km_w 632 (by first | rfl | decide +kernel) (by first | rfl | decide +kernel)
set_option maxRecDepth 100000 in
theorem mw_633 : Jvm.Cond.methodLink "SealedChainLaw" (70 : Nat) y_Md_promised ∈ kmW := km_w 633 (by first | rfl | decide +kernel) (by first | rfl | decide +kernel)
set_option maxRecDepth 100000 in
theorem mw_634 : Jvm.Cond.instanceMethod y_Md_promised ∈ kmW := km_w 634 (by first | rfl | decide +kernel) (by first | rfl | decide +kernel)
set_option maxRecDepth 100000 in
theorem mw_635 : Jvm.Cond.selects "SealedChainModel" y_Md_promised y_Md_promised ∈ kmW := km_w 635 (by first | rfl | decide +kernel) (by first | rfl | decide +kernel)
set_option maxRecDepth 100000 in
theorem mw_636 : Jvm.Cond.code y_Md_promised prog_8_method_31_code (4 : Nat) (Option.some Jvm.ClassFile.FieldType.int) ∈ kmW := km_w 636 (by first | rfl | decide +kernel) (by first | rfl | decide +kernel)
set_option maxRecDepth 100000 in
theorem mw_640 : Jvm.Cond.methodLink "SealedChainLaw" (74 : Nat) y_Md_vote ∈ kmW := km_w 640 (by first | rfl | decide +kernel) (by first | rfl | decide +kernel)
set_option maxRecDepth 100000 in
theorem mw_641 : Jvm.Cond.instanceMethod y_Md_vote ∈ kmW := km_w 641 (by first | rfl | decide +kernel) (by first | rfl | decide +kernel)
set_option maxRecDepth 100000 in
theorem mw_642 : Jvm.Cond.selects "SealedChainModel" y_Md_vote y_Md_vote ∈ kmW := km_w 642 (by first | rfl | decide +kernel) (by first | rfl | decide +kernel)
set_option maxRecDepth 100000 in
theorem mw_643 : Jvm.Cond.code y_Md_vote prog_8_method_32_code (5 : Nat) (Option.some Jvm.ClassFile.FieldType.int) ∈ kmW := km_w 643 (by first | rfl | decide +kernel) (by first | rfl | decide +kernel)
set_option maxRecDepth 100000 in
theorem mw_644 : Jvm.Cond.methodLink "SealedChainLaw" (78 : Nat) y_Md_known ∈ kmW := km_w 644 (by first | rfl | decide +kernel) (by first | rfl | decide +kernel)
set_option maxRecDepth 100000 in
theorem mw_645 : Jvm.Cond.instanceMethod y_Md_known ∈ kmW := km_w 645 (by first | rfl | decide +kernel) (by first | rfl | decide +kernel)
set_option maxRecDepth 100000 in
theorem mw_646 : Jvm.Cond.selects "SealedChainModel" y_Md_known y_Md_known ∈ kmW := km_w 646 (by first | rfl | decide +kernel) (by first | rfl | decide +kernel)
set_option maxRecDepth 100000 in
theorem mw_647 : Jvm.Cond.code y_Md_known prog_8_method_33_code (3 : Nat) (Option.some Jvm.ClassFile.FieldType.int) ∈ kmW := km_w 647 (by first | rfl | decide +kernel) (by first | rfl | decide +kernel)
set_option maxRecDepth 100000 in
theorem mw_648 : Jvm.Cond.methodLink "SealedChainLaw" (82 : Nat) y_Md_reply ∈ kmW := km_w 648 (by first | rfl | decide +kernel) (by first | rfl | decide +kernel)
set_option maxRecDepth 100000 in
theorem mw_649 : Jvm.Cond.instanceMethod y_Md_reply ∈ kmW := km_w 649 (by first | rfl | decide +kernel) (by first | rfl | decide +kernel)
set_option maxRecDepth 100000 in
theorem mw_650 : Jvm.Cond.selects "SealedChainModel" y_Md_reply y_Md_reply ∈ kmW := km_w 650 (by first | rfl | decide +kernel) (by first | rfl | decide +kernel)
set_option maxRecDepth 100000 in
theorem mw_651 : Jvm.Cond.code y_Md_reply prog_8_method_34_code (2 : Nat) (Option.some Jvm.ClassFile.FieldType.int) ∈ kmW := km_w 651 (by first | rfl | decide +kernel) (by first | rfl | decide +kernel)
set_option maxRecDepth 100000 in
theorem mw_652 : Jvm.Cond.methodLink "SealedChainLaw" (86 : Nat) y_Md_heard ∈ kmW := km_w 652 (by first | rfl | decide +kernel) (by first | rfl | decide +kernel)
set_option maxRecDepth 100000 in
theorem mw_653 : Jvm.Cond.instanceMethod y_Md_heard ∈ kmW := km_w 653 (by first | rfl | decide +kernel) (by first | rfl | decide +kernel)
set_option maxRecDepth 100000 in
theorem mw_654 : Jvm.Cond.selects "SealedChainModel" y_Md_heard y_Md_heard ∈ kmW := km_w 654 (by first | rfl | decide +kernel) (by first | rfl | decide +kernel)
set_option maxRecDepth 100000 in
theorem mw_655 : Jvm.Cond.code y_Md_heard prog_8_method_35_code (2 : Nat) (Option.some Jvm.ClassFile.FieldType.int) ∈ kmW := km_w 655 (by first | rfl | decide +kernel) (by first | rfl | decide +kernel)
theorem d_Lw_law_0 : decode code 0 = .ok (.new 7, 3) := by decide +kernel
theorem d_Lw_law_3 : decode code 3 = .ok (.dup, 1) := by decide +kernel
theorem d_Lw_law_4 : decode code 4 = .ok (.invokespecial 9, 3) := by decide +kernel
theorem d_Lw_law_7 : decode code 7 = .ok (.astore_n 1, 1) := by decide +kernel
theorem d_Lw_law_8 : decode code 8 = .ok (.new 10, 3) := by decide +kernel
theorem d_Lw_law_11 : decode code 11 = .ok (.dup, 1) := by decide +kernel
theorem d_Lw_law_12 : decode code 12 = .ok (.invokespecial 12, 3) := by decide +kernel
theorem d_Lw_law_15 : decode code 15 = .ok (.astore_n 2, 1) := by decide +kernel
theorem d_Lw_law_16 : decode code 16 = .ok (.iconst 0, 1) := by decide +kernel
theorem d_Lw_law_17 : decode code 17 = .ok (.istore_n 3, 1) := by decide +kernel
theorem d_Lw_law_18 : decode code 18 = .ok (.iload_n 3, 1) := by decide +kernel
theorem d_Lw_law_19 : decode code 19 = .ok (.aload_n 0, 1) := by decide +kernel
theorem d_Lw_law_20 : decode code 20 = .ok (.arraylength, 1) := by decide +kernel
theorem d_Lw_law_21 : decode code 21 = .ok (.iconst 4, 1) := by decide +kernel
theorem d_Lw_law_22 : decode code 22 = .ok (.isub, 1) := by decide +kernel
theorem d_Lw_law_23 : decode code 23 = .ok (.if_icmp .gt 672, 3) := by decide +kernel
theorem d_Lw_law_26 : decode code 26 = .ok (.aload_n 0, 1) := by decide +kernel
theorem d_Lw_law_27 : decode code 27 = .ok (.iload_n 3, 1) := by decide +kernel
theorem d_Lw_law_28 : decode code 28 = .ok (.iaload, 1) := by decide +kernel
theorem d_Lw_law_29 : decode code 29 = .ok (.bipush 31, 2) := by decide +kernel
theorem d_Lw_law_31 : decode code 31 = .ok (.iand, 1) := by decide +kernel
theorem d_Lw_law_32 : decode code 32 = .ok (.tableswitch 657 0 16 #[84, 127, 160, 173, 206, 265, 324, 357, 380, 403, 426, 459, 492, 535, 578, 611, 634], 84) := by decide +kernel
theorem d_Lw_law_116 : decode code 116 = .ok (.aload_n 1, 1) := by decide +kernel
theorem d_Lw_law_117 : decode code 117 = .ok (.aload_n 0, 1) := by decide +kernel
theorem d_Lw_law_118 : decode code 118 = .ok (.iload_n 3, 1) := by decide +kernel
theorem d_Lw_law_119 : decode code 119 = .ok (.iconst 1, 1) := by decide +kernel
theorem d_Lw_law_120 : decode code 120 = .ok (.iadd, 1) := by decide +kernel
theorem d_Lw_law_121 : decode code 121 = .ok (.iaload, 1) := by decide +kernel
theorem d_Lw_law_122 : decode code 122 = .ok (.aload_n 0, 1) := by decide +kernel
theorem d_Lw_law_123 : decode code 123 = .ok (.iload_n 3, 1) := by decide +kernel
theorem d_Lw_law_124 : decode code 124 = .ok (.iconst 2, 1) := by decide +kernel
theorem d_Lw_law_125 : decode code 125 = .ok (.iadd, 1) := by decide +kernel
theorem d_Lw_law_126 : decode code 126 = .ok (.iaload, 1) := by decide +kernel
theorem d_Lw_law_127 : decode code 127 = .ok (.aload_n 0, 1) := by decide +kernel
theorem d_Lw_law_128 : decode code 128 = .ok (.iload_n 3, 1) := by decide +kernel
theorem d_Lw_law_129 : decode code 129 = .ok (.iconst 3, 1) := by decide +kernel
theorem d_Lw_law_130 : decode code 130 = .ok (.iadd, 1) := by decide +kernel
theorem d_Lw_law_131 : decode code 131 = .ok (.iaload, 1) := by decide +kernel
theorem d_Lw_law_132 : decode code 132 = .ok (.invokevirtual 13, 3) := by decide +kernel
theorem d_Lw_law_135 : decode code 135 = .ok (.aload_n 2, 1) := by decide +kernel
theorem d_Lw_law_136 : decode code 136 = .ok (.aload_n 0, 1) := by decide +kernel
theorem d_Lw_law_137 : decode code 137 = .ok (.iload_n 3, 1) := by decide +kernel
theorem d_Lw_law_138 : decode code 138 = .ok (.iconst 1, 1) := by decide +kernel
theorem d_Lw_law_139 : decode code 139 = .ok (.iadd, 1) := by decide +kernel
theorem d_Lw_law_140 : decode code 140 = .ok (.iaload, 1) := by decide +kernel
theorem d_Lw_law_141 : decode code 141 = .ok (.aload_n 0, 1) := by decide +kernel
theorem d_Lw_law_142 : decode code 142 = .ok (.iload_n 3, 1) := by decide +kernel
theorem d_Lw_law_143 : decode code 143 = .ok (.iconst 2, 1) := by decide +kernel
theorem d_Lw_law_144 : decode code 144 = .ok (.iadd, 1) := by decide +kernel
theorem d_Lw_law_145 : decode code 145 = .ok (.iaload, 1) := by decide +kernel
theorem d_Lw_law_146 : decode code 146 = .ok (.aload_n 0, 1) := by decide +kernel
theorem d_Lw_law_147 : decode code 147 = .ok (.iload_n 3, 1) := by decide +kernel
theorem d_Lw_law_148 : decode code 148 = .ok (.iconst 3, 1) := by decide +kernel
theorem d_Lw_law_149 : decode code 149 = .ok (.iadd, 1) := by decide +kernel
theorem d_Lw_law_150 : decode code 150 = .ok (.iaload, 1) := by decide +kernel
theorem d_Lw_law_151 : decode code 151 = .ok (.invokevirtual 17, 3) := by decide +kernel
theorem d_Lw_law_154 : decode code 154 = .ok (.if_icmp .eq 535, 3) := by decide +kernel
theorem d_Lw_law_157 : decode code 157 = .ok (.iconst 0, 1) := by decide +kernel
theorem d_Lw_law_158 : decode code 158 = .ok (.ireturn, 1) := by decide +kernel
theorem d_Lw_law_159 : decode code 159 = .ok (.aload_n 1, 1) := by decide +kernel
theorem d_Lw_law_160 : decode code 160 = .ok (.aload_n 0, 1) := by decide +kernel
theorem d_Lw_law_161 : decode code 161 = .ok (.iload_n 3, 1) := by decide +kernel
theorem d_Lw_law_162 : decode code 162 = .ok (.iconst 1, 1) := by decide +kernel
theorem d_Lw_law_163 : decode code 163 = .ok (.iadd, 1) := by decide +kernel
theorem d_Lw_law_164 : decode code 164 = .ok (.iaload, 1) := by decide +kernel
theorem d_Lw_law_165 : decode code 165 = .ok (.aload_n 0, 1) := by decide +kernel
theorem d_Lw_law_166 : decode code 166 = .ok (.iload_n 3, 1) := by decide +kernel
theorem d_Lw_law_167 : decode code 167 = .ok (.iconst 2, 1) := by decide +kernel
theorem d_Lw_law_168 : decode code 168 = .ok (.iadd, 1) := by decide +kernel
theorem d_Lw_law_169 : decode code 169 = .ok (.iaload, 1) := by decide +kernel
theorem d_Lw_law_170 : decode code 170 = .ok (.invokevirtual 18, 3) := by decide +kernel
theorem d_Lw_law_173 : decode code 173 = .ok (.aload_n 2, 1) := by decide +kernel
theorem d_Lw_law_174 : decode code 174 = .ok (.aload_n 0, 1) := by decide +kernel
theorem d_Lw_law_175 : decode code 175 = .ok (.iload_n 3, 1) := by decide +kernel
theorem d_Lw_law_176 : decode code 176 = .ok (.iconst 1, 1) := by decide +kernel
theorem d_Lw_law_177 : decode code 177 = .ok (.iadd, 1) := by decide +kernel
theorem d_Lw_law_178 : decode code 178 = .ok (.iaload, 1) := by decide +kernel
theorem d_Lw_law_179 : decode code 179 = .ok (.aload_n 0, 1) := by decide +kernel
theorem d_Lw_law_180 : decode code 180 = .ok (.iload_n 3, 1) := by decide +kernel
theorem d_Lw_law_181 : decode code 181 = .ok (.iconst 2, 1) := by decide +kernel
theorem d_Lw_law_182 : decode code 182 = .ok (.iadd, 1) := by decide +kernel
theorem d_Lw_law_183 : decode code 183 = .ok (.iaload, 1) := by decide +kernel
theorem d_Lw_law_184 : decode code 184 = .ok (.invokevirtual 22, 3) := by decide +kernel
theorem d_Lw_law_187 : decode code 187 = .ok (.if_icmp .eq 502, 3) := by decide +kernel
theorem d_Lw_law_190 : decode code 190 = .ok (.iconst 0, 1) := by decide +kernel
theorem d_Lw_law_191 : decode code 191 = .ok (.ireturn, 1) := by decide +kernel
theorem d_Lw_law_192 : decode code 192 = .ok (.aload_n 1, 1) := by decide +kernel
theorem d_Lw_law_193 : decode code 193 = .ok (.invokevirtual 23, 3) := by decide +kernel
theorem d_Lw_law_196 : decode code 196 = .ok (.aload_n 2, 1) := by decide +kernel
theorem d_Lw_law_197 : decode code 197 = .ok (.invokevirtual 27, 3) := by decide +kernel
theorem d_Lw_law_200 : decode code 200 = .ok (.if_icmp .eq 489, 3) := by decide +kernel
theorem d_Lw_law_203 : decode code 203 = .ok (.iconst 0, 1) := by decide +kernel
theorem d_Lw_law_204 : decode code 204 = .ok (.ireturn, 1) := by decide +kernel
theorem d_Lw_law_205 : decode code 205 = .ok (.aload_n 1, 1) := by decide +kernel
theorem d_Lw_law_206 : decode code 206 = .ok (.aload_n 0, 1) := by decide +kernel
theorem d_Lw_law_207 : decode code 207 = .ok (.iload_n 3, 1) := by decide +kernel
theorem d_Lw_law_208 : decode code 208 = .ok (.iconst 1, 1) := by decide +kernel
theorem d_Lw_law_209 : decode code 209 = .ok (.iadd, 1) := by decide +kernel
theorem d_Lw_law_210 : decode code 210 = .ok (.iaload, 1) := by decide +kernel
theorem d_Lw_law_211 : decode code 211 = .ok (.aload_n 0, 1) := by decide +kernel
theorem d_Lw_law_212 : decode code 212 = .ok (.iload_n 3, 1) := by decide +kernel
theorem d_Lw_law_213 : decode code 213 = .ok (.iconst 2, 1) := by decide +kernel
theorem d_Lw_law_214 : decode code 214 = .ok (.iadd, 1) := by decide +kernel
theorem d_Lw_law_215 : decode code 215 = .ok (.iaload, 1) := by decide +kernel
theorem d_Lw_law_216 : decode code 216 = .ok (.invokevirtual 28, 3) := by decide +kernel
theorem d_Lw_law_219 : decode code 219 = .ok (.aload_n 2, 1) := by decide +kernel
theorem d_Lw_law_220 : decode code 220 = .ok (.aload_n 0, 1) := by decide +kernel
theorem d_Lw_law_221 : decode code 221 = .ok (.iload_n 3, 1) := by decide +kernel
theorem d_Lw_law_222 : decode code 222 = .ok (.iconst 1, 1) := by decide +kernel
theorem d_Lw_law_223 : decode code 223 = .ok (.iadd, 1) := by decide +kernel
theorem d_Lw_law_224 : decode code 224 = .ok (.iaload, 1) := by decide +kernel
theorem d_Lw_law_225 : decode code 225 = .ok (.aload_n 0, 1) := by decide +kernel
theorem d_Lw_law_226 : decode code 226 = .ok (.iload_n 3, 1) := by decide +kernel
theorem d_Lw_law_227 : decode code 227 = .ok (.iconst 2, 1) := by decide +kernel
theorem d_Lw_law_228 : decode code 228 = .ok (.iadd, 1) := by decide +kernel
theorem d_Lw_law_229 : decode code 229 = .ok (.iaload, 1) := by decide +kernel
theorem d_Lw_law_230 : decode code 230 = .ok (.invokevirtual 31, 3) := by decide +kernel
theorem d_Lw_law_233 : decode code 233 = .ok (.if_icmp .eq 456, 3) := by decide +kernel
theorem d_Lw_law_236 : decode code 236 = .ok (.iconst 0, 1) := by decide +kernel
theorem d_Lw_law_237 : decode code 237 = .ok (.ireturn, 1) := by decide +kernel
theorem d_Lw_law_238 : decode code 238 = .ok (.aload_n 1, 1) := by decide +kernel
theorem d_Lw_law_239 : decode code 239 = .ok (.aload_n 0, 1) := by decide +kernel
theorem d_Lw_law_240 : decode code 240 = .ok (.iload_n 3, 1) := by decide +kernel
theorem d_Lw_law_241 : decode code 241 = .ok (.iconst 1, 1) := by decide +kernel
theorem d_Lw_law_242 : decode code 242 = .ok (.iadd, 1) := by decide +kernel
theorem d_Lw_law_243 : decode code 243 = .ok (.iaload, 1) := by decide +kernel
theorem d_Lw_law_244 : decode code 244 = .ok (.aload_n 0, 1) := by decide +kernel
theorem d_Lw_law_245 : decode code 245 = .ok (.iload_n 3, 1) := by decide +kernel
theorem d_Lw_law_246 : decode code 246 = .ok (.iconst 2, 1) := by decide +kernel
theorem d_Lw_law_247 : decode code 247 = .ok (.iadd, 1) := by decide +kernel
theorem d_Lw_law_248 : decode code 248 = .ok (.iaload, 1) := by decide +kernel
theorem d_Lw_law_249 : decode code 249 = .ok (.aload_n 0, 1) := by decide +kernel
theorem d_Lw_law_250 : decode code 250 = .ok (.iload_n 3, 1) := by decide +kernel
theorem d_Lw_law_251 : decode code 251 = .ok (.iconst 3, 1) := by decide +kernel
theorem d_Lw_law_252 : decode code 252 = .ok (.iadd, 1) := by decide +kernel
theorem d_Lw_law_253 : decode code 253 = .ok (.iaload, 1) := by decide +kernel
theorem d_Lw_law_254 : decode code 254 = .ok (.ifCond .eq 7, 3) := by decide +kernel
theorem d_Lw_law_257 : decode code 257 = .ok (.iconst 1, 1) := by decide +kernel
theorem d_Lw_law_258 : decode code 258 = .ok (.goto 4, 3) := by decide +kernel
theorem d_Lw_law_261 : decode code 261 = .ok (.iconst 0, 1) := by decide +kernel
theorem d_Lw_law_262 : decode code 262 = .ok (.invokevirtual 32, 3) := by decide +kernel
theorem d_Lw_law_265 : decode code 265 = .ok (.aload_n 2, 1) := by decide +kernel
theorem d_Lw_law_266 : decode code 266 = .ok (.aload_n 0, 1) := by decide +kernel
theorem d_Lw_law_267 : decode code 267 = .ok (.iload_n 3, 1) := by decide +kernel
theorem d_Lw_law_268 : decode code 268 = .ok (.iconst 1, 1) := by decide +kernel
theorem d_Lw_law_269 : decode code 269 = .ok (.iadd, 1) := by decide +kernel
theorem d_Lw_law_270 : decode code 270 = .ok (.iaload, 1) := by decide +kernel
theorem d_Lw_law_271 : decode code 271 = .ok (.aload_n 0, 1) := by decide +kernel
theorem d_Lw_law_272 : decode code 272 = .ok (.iload_n 3, 1) := by decide +kernel
theorem d_Lw_law_273 : decode code 273 = .ok (.iconst 2, 1) := by decide +kernel
theorem d_Lw_law_274 : decode code 274 = .ok (.iadd, 1) := by decide +kernel
theorem d_Lw_law_275 : decode code 275 = .ok (.iaload, 1) := by decide +kernel
theorem d_Lw_law_276 : decode code 276 = .ok (.aload_n 0, 1) := by decide +kernel
theorem d_Lw_law_277 : decode code 277 = .ok (.iload_n 3, 1) := by decide +kernel
theorem d_Lw_law_278 : decode code 278 = .ok (.iconst 3, 1) := by decide +kernel
theorem d_Lw_law_279 : decode code 279 = .ok (.iadd, 1) := by decide +kernel
theorem d_Lw_law_280 : decode code 280 = .ok (.iaload, 1) := by decide +kernel
theorem d_Lw_law_281 : decode code 281 = .ok (.ifCond .eq 7, 3) := by decide +kernel
theorem d_Lw_law_284 : decode code 284 = .ok (.iconst 1, 1) := by decide +kernel
theorem d_Lw_law_285 : decode code 285 = .ok (.goto 4, 3) := by decide +kernel
theorem d_Lw_law_288 : decode code 288 = .ok (.iconst 0, 1) := by decide +kernel
theorem d_Lw_law_289 : decode code 289 = .ok (.invokevirtual 36, 3) := by decide +kernel
theorem d_Lw_law_292 : decode code 292 = .ok (.if_icmp .eq 397, 3) := by decide +kernel
theorem d_Lw_law_295 : decode code 295 = .ok (.iconst 0, 1) := by decide +kernel
theorem d_Lw_law_296 : decode code 296 = .ok (.ireturn, 1) := by decide +kernel
theorem d_Lw_law_297 : decode code 297 = .ok (.aload_n 1, 1) := by decide +kernel
theorem d_Lw_law_298 : decode code 298 = .ok (.aload_n 0, 1) := by decide +kernel
theorem d_Lw_law_299 : decode code 299 = .ok (.iload_n 3, 1) := by decide +kernel
theorem d_Lw_law_300 : decode code 300 = .ok (.iconst 1, 1) := by decide +kernel
theorem d_Lw_law_301 : decode code 301 = .ok (.iadd, 1) := by decide +kernel
theorem d_Lw_law_302 : decode code 302 = .ok (.iaload, 1) := by decide +kernel
theorem d_Lw_law_303 : decode code 303 = .ok (.aload_n 0, 1) := by decide +kernel
theorem d_Lw_law_304 : decode code 304 = .ok (.iload_n 3, 1) := by decide +kernel
theorem d_Lw_law_305 : decode code 305 = .ok (.iconst 2, 1) := by decide +kernel
theorem d_Lw_law_306 : decode code 306 = .ok (.iadd, 1) := by decide +kernel
theorem d_Lw_law_307 : decode code 307 = .ok (.iaload, 1) := by decide +kernel
theorem d_Lw_law_308 : decode code 308 = .ok (.aload_n 0, 1) := by decide +kernel
theorem d_Lw_law_309 : decode code 309 = .ok (.iload_n 3, 1) := by decide +kernel
theorem d_Lw_law_310 : decode code 310 = .ok (.iconst 3, 1) := by decide +kernel
theorem d_Lw_law_311 : decode code 311 = .ok (.iadd, 1) := by decide +kernel
theorem d_Lw_law_312 : decode code 312 = .ok (.iaload, 1) := by decide +kernel
theorem d_Lw_law_313 : decode code 313 = .ok (.ifCond .eq 7, 3) := by decide +kernel
theorem d_Lw_law_316 : decode code 316 = .ok (.iconst 1, 1) := by decide +kernel
theorem d_Lw_law_317 : decode code 317 = .ok (.goto 4, 3) := by decide +kernel
theorem d_Lw_law_320 : decode code 320 = .ok (.iconst 0, 1) := by decide +kernel
theorem d_Lw_law_321 : decode code 321 = .ok (.invokevirtual 37, 3) := by decide +kernel
theorem d_Lw_law_324 : decode code 324 = .ok (.aload_n 2, 1) := by decide +kernel
theorem d_Lw_law_325 : decode code 325 = .ok (.aload_n 0, 1) := by decide +kernel
theorem d_Lw_law_326 : decode code 326 = .ok (.iload_n 3, 1) := by decide +kernel
theorem d_Lw_law_327 : decode code 327 = .ok (.iconst 1, 1) := by decide +kernel
theorem d_Lw_law_328 : decode code 328 = .ok (.iadd, 1) := by decide +kernel
theorem d_Lw_law_329 : decode code 329 = .ok (.iaload, 1) := by decide +kernel
theorem d_Lw_law_330 : decode code 330 = .ok (.aload_n 0, 1) := by decide +kernel
theorem d_Lw_law_331 : decode code 331 = .ok (.iload_n 3, 1) := by decide +kernel
theorem d_Lw_law_332 : decode code 332 = .ok (.iconst 2, 1) := by decide +kernel
theorem d_Lw_law_333 : decode code 333 = .ok (.iadd, 1) := by decide +kernel
theorem d_Lw_law_334 : decode code 334 = .ok (.iaload, 1) := by decide +kernel
theorem d_Lw_law_335 : decode code 335 = .ok (.aload_n 0, 1) := by decide +kernel
theorem d_Lw_law_336 : decode code 336 = .ok (.iload_n 3, 1) := by decide +kernel
theorem d_Lw_law_337 : decode code 337 = .ok (.iconst 3, 1) := by decide +kernel
theorem d_Lw_law_338 : decode code 338 = .ok (.iadd, 1) := by decide +kernel
theorem d_Lw_law_339 : decode code 339 = .ok (.iaload, 1) := by decide +kernel
theorem d_Lw_law_340 : decode code 340 = .ok (.ifCond .eq 7, 3) := by decide +kernel
theorem d_Lw_law_343 : decode code 343 = .ok (.iconst 1, 1) := by decide +kernel
theorem d_Lw_law_344 : decode code 344 = .ok (.goto 4, 3) := by decide +kernel
theorem d_Lw_law_347 : decode code 347 = .ok (.iconst 0, 1) := by decide +kernel
theorem d_Lw_law_348 : decode code 348 = .ok (.invokevirtual 40, 3) := by decide +kernel
theorem d_Lw_law_351 : decode code 351 = .ok (.if_icmp .eq 338, 3) := by decide +kernel
theorem d_Lw_law_354 : decode code 354 = .ok (.iconst 0, 1) := by decide +kernel
theorem d_Lw_law_355 : decode code 355 = .ok (.ireturn, 1) := by decide +kernel
theorem d_Lw_law_356 : decode code 356 = .ok (.aload_n 1, 1) := by decide +kernel
theorem d_Lw_law_357 : decode code 357 = .ok (.aload_n 0, 1) := by decide +kernel
theorem d_Lw_law_358 : decode code 358 = .ok (.iload_n 3, 1) := by decide +kernel
theorem d_Lw_law_359 : decode code 359 = .ok (.iconst 1, 1) := by decide +kernel
theorem d_Lw_law_360 : decode code 360 = .ok (.iadd, 1) := by decide +kernel
theorem d_Lw_law_361 : decode code 361 = .ok (.iaload, 1) := by decide +kernel
theorem d_Lw_law_362 : decode code 362 = .ok (.aload_n 0, 1) := by decide +kernel
theorem d_Lw_law_363 : decode code 363 = .ok (.iload_n 3, 1) := by decide +kernel
theorem d_Lw_law_364 : decode code 364 = .ok (.iconst 2, 1) := by decide +kernel
theorem d_Lw_law_365 : decode code 365 = .ok (.iadd, 1) := by decide +kernel
