theorem dL_law_444 : decode cL_law 444 = .ok (.aload_n 1, 1) := by decide +kernel
theorem dL_law_445 : decode cL_law 445 = .ok (.aload_n 0, 1) := by decide +kernel
theorem dL_law_446 : decode cL_law 446 = .ok (.iload 4, 2) := by decide +kernel
theorem dL_law_448 : decode cL_law 448 = .ok (.iconst 1, 1) := by decide +kernel
theorem dL_law_449 : decode cL_law 449 = .ok (.iadd, 1) := by decide +kernel
theorem dL_law_450 : decode cL_law 450 = .ok (.iaload, 1) := by decide +kernel
theorem dL_law_451 : decode cL_law 451 = .ok (.aload_n 0, 1) := by decide +kernel
theorem dL_law_452 : decode cL_law 452 = .ok (.iload 4, 2) := by decide +kernel
theorem dL_law_454 : decode cL_law 454 = .ok (.iconst 2, 1) := by decide +kernel
theorem dL_law_455 : decode cL_law 455 = .ok (.iadd, 1) := by decide +kernel
theorem dL_law_456 : decode cL_law 456 = .ok (.iaload, 1) := by decide +kernel
theorem dL_law_457 : decode cL_law 457 = .ok (.aload_n 0, 1) := by decide +kernel
theorem dL_law_458 : decode cL_law 458 = .ok (.iload 4, 2) := by decide +kernel
theorem dL_law_460 : decode cL_law 460 = .ok (.iconst 3, 1) := by decide +kernel
theorem dL_law_461 : decode cL_law 461 = .ok (.iadd, 1) := by decide +kernel
theorem dL_law_462 : decode cL_law 462 = .ok (.iaload, 1) := by decide +kernel
theorem dL_law_463 : decode cL_law 463 = .ok (.aload_n 0, 1) := by decide +kernel
theorem dL_law_464 : decode cL_law 464 = .ok (.iload 4, 2) := by decide +kernel
theorem dL_law_466 : decode cL_law 466 = .ok (.iconst 4, 1) := by decide +kernel
theorem dL_law_467 : decode cL_law 467 = .ok (.iadd, 1) := by decide +kernel
theorem dL_law_468 : decode cL_law 468 = .ok (.iaload, 1) := by decide +kernel
theorem dL_law_469 : decode cL_law 469 = .ok (.aload_n 0, 1) := by decide +kernel
theorem dL_law_470 : decode cL_law 470 = .ok (.iload 4, 2) := by decide +kernel
theorem dL_law_472 : decode cL_law 472 = .ok (.iconst 5, 1) := by decide +kernel
theorem dL_law_473 : decode cL_law 473 = .ok (.iadd, 1) := by decide +kernel
theorem dL_law_474 : decode cL_law 474 = .ok (.iaload, 1) := by decide +kernel
theorem dL_law_475 : decode cL_law 475 = .ok (.aload_n 0, 1) := by decide +kernel
theorem dL_law_476 : decode cL_law 476 = .ok (.iload 4, 2) := by decide +kernel
theorem dL_law_478 : decode cL_law 478 = .ok (.bipush 6, 2) := by decide +kernel
theorem dL_law_480 : decode cL_law 480 = .ok (.iadd, 1) := by decide +kernel
theorem dL_law_481 : decode cL_law 481 = .ok (.iaload, 1) := by decide +kernel
theorem dL_law_482 : decode cL_law 482 = .ok (.ifCond .eq 7, 3) := by decide +kernel
theorem dL_law_489 : decode cL_law 489 = .ok (.iconst 0, 1) := by decide +kernel
theorem q_284 : Cond.methodLink "FieldMemberLaw" 60 ⟨"FieldMember", "member", "(IIIIIZ)I"⟩ ∈ TT := tt_t (i := 284) (by decide +kernel) (by decide +kernel)
theorem q_287 : Cond.code ⟨"FieldMember", "member", "(IIIIIZ)I"⟩ prog_1_method_8_code 11 (some .int) ∈ TT := tt_t (i := 287) (by decide +kernel) (by decide +kernel)
theorem q_285 : Cond.instanceMethod ⟨"FieldMember", "member", "(IIIIIZ)I"⟩ ∈ TT := tt_t (i := 285) (by decide +kernel) (by decide +kernel)
theorem q_286 : Cond.selects "FieldMember" ⟨"FieldMember", "member", "(IIIIIZ)I"⟩ ⟨"FieldMember", "member", "(IIIIIZ)I"⟩ ∈ TT := tt_t (i := 286) (by decide +kernel) (by decide +kernel)
theorem gV_L_X7_member : GoodIn TT (wsV RL 60 RX7 yX7_member (ww yX7_member cX7_member 11 (some .int))) := tt_V q_284 q_285 q_286 q_1 q_287
theorem hdV_X7_member : yX7_member.cls = RX7 ∧ yX7_member.cls ≠ "java/lang/invoke/MethodHandle" ∧ yX7_member.cls ≠ "java/lang/invoke/VarHandle" ∧ (parseMethodDescriptor yX7_member.desc).map (fun d => d.parameters.length) = some 6 := by decide +kernel
theorem dL_law_490 : decode cL_law 490 = .ok (.invokevirtual 60, 3) := by decide +kernel
theorem dL_law_493 : decode cL_law 493 = .ok (.aload_n 2, 1) := by decide +kernel
theorem dL_law_494 : decode cL_law 494 = .ok (.aload_n 0, 1) := by decide +kernel
theorem dL_law_495 : decode cL_law 495 = .ok (.iload 4, 2) := by decide +kernel
theorem dL_law_497 : decode cL_law 497 = .ok (.iconst 1, 1) := by decide +kernel
theorem dL_law_498 : decode cL_law 498 = .ok (.iadd, 1) := by decide +kernel
theorem dL_law_499 : decode cL_law 499 = .ok (.iaload, 1) := by decide +kernel
theorem dL_law_500 : decode cL_law 500 = .ok (.aload_n 0, 1) := by decide +kernel
theorem dL_law_501 : decode cL_law 501 = .ok (.iload 4, 2) := by decide +kernel
theorem dL_law_503 : decode cL_law 503 = .ok (.iconst 2, 1) := by decide +kernel
theorem dL_law_504 : decode cL_law 504 = .ok (.iadd, 1) := by decide +kernel
theorem dL_law_505 : decode cL_law 505 = .ok (.iaload, 1) := by decide +kernel
theorem dL_law_506 : decode cL_law 506 = .ok (.aload_n 0, 1) := by decide +kernel
theorem dL_law_507 : decode cL_law 507 = .ok (.iload 4, 2) := by decide +kernel
theorem dL_law_509 : decode cL_law 509 = .ok (.iconst 3, 1) := by decide +kernel
theorem dL_law_510 : decode cL_law 510 = .ok (.iadd, 1) := by decide +kernel
theorem dL_law_511 : decode cL_law 511 = .ok (.iaload, 1) := by decide +kernel
theorem dL_law_512 : decode cL_law 512 = .ok (.aload_n 0, 1) := by decide +kernel
theorem dL_law_513 : decode cL_law 513 = .ok (.iload 4, 2) := by decide +kernel
theorem dL_law_515 : decode cL_law 515 = .ok (.iconst 4, 1) := by decide +kernel
theorem dL_law_516 : decode cL_law 516 = .ok (.iadd, 1) := by decide +kernel
theorem dL_law_517 : decode cL_law 517 = .ok (.iaload, 1) := by decide +kernel
theorem dL_law_518 : decode cL_law 518 = .ok (.aload_n 0, 1) := by decide +kernel
theorem dL_law_519 : decode cL_law 519 = .ok (.iload 4, 2) := by decide +kernel
theorem dL_law_521 : decode cL_law 521 = .ok (.iconst 5, 1) := by decide +kernel
theorem dL_law_522 : decode cL_law 522 = .ok (.iadd, 1) := by decide +kernel
theorem dL_law_523 : decode cL_law 523 = .ok (.iaload, 1) := by decide +kernel
theorem dL_law_524 : decode cL_law 524 = .ok (.aload_n 0, 1) := by decide +kernel
theorem dL_law_525 : decode cL_law 525 = .ok (.iload 4, 2) := by decide +kernel
theorem dL_law_527 : decode cL_law 527 = .ok (.bipush 6, 2) := by decide +kernel
theorem dL_law_529 : decode cL_law 529 = .ok (.iadd, 1) := by decide +kernel
theorem dL_law_530 : decode cL_law 530 = .ok (.iaload, 1) := by decide +kernel
theorem dL_law_531 : decode cL_law 531 = .ok (.ifCond .eq 7, 3) := by decide +kernel
theorem dL_law_538 : decode cL_law 538 = .ok (.iconst 0, 1) := by decide +kernel
theorem q_882 : Cond.methodLink "FieldMemberLaw" 64 ⟨"FieldMemberModel", "member", "(IIIIIZ)I"⟩ ∈ TT := tt_t (i := 882) (by decide +kernel) (by decide +kernel)
theorem q_885 : Cond.code ⟨"FieldMemberModel", "member", "(IIIIIZ)I"⟩ prog_10_method_23_code 10 (some .int) ∈ TT := tt_t (i := 885) (by decide +kernel) (by decide +kernel)
theorem q_883 : Cond.instanceMethod ⟨"FieldMemberModel", "member", "(IIIIIZ)I"⟩ ∈ TT := tt_t (i := 883) (by decide +kernel) (by decide +kernel)
theorem q_884 : Cond.selects "FieldMemberModel" ⟨"FieldMemberModel", "member", "(IIIIIZ)I"⟩ ⟨"FieldMemberModel", "member", "(IIIIIZ)I"⟩ ∈ TT := tt_t (i := 884) (by decide +kernel) (by decide +kernel)
theorem gV_L_X8_member : GoodIn TT (wsV RL 64 RX8 yX8_member (ww yX8_member cX8_member 10 (some .int))) := tt_V q_882 q_883 q_884 q_4 q_885
theorem hdV_X8_member : yX8_member.cls = RX8 ∧ yX8_member.cls ≠ "java/lang/invoke/MethodHandle" ∧ yX8_member.cls ≠ "java/lang/invoke/VarHandle" ∧ (parseMethodDescriptor yX8_member.desc).map (fun d => d.parameters.length) = some 6 := by decide +kernel
theorem dL_law_539 : decode cL_law 539 = .ok (.invokevirtual 64, 3) := by decide +kernel
theorem dL_law_542 : decode cL_law 542 = .ok (.if_icmp .eq 477, 3) := by decide +kernel
theorem dL_law_485 : decode cL_law 485 = .ok (.iconst 1, 1) := by decide +kernel
theorem dL_law_486 : decode cL_law 486 = .ok (.goto 4, 3) := by decide +kernel
theorem dL_law_534 : decode cL_law 534 = .ok (.iconst 1, 1) := by decide +kernel
theorem dL_law_535 : decode cL_law 535 = .ok (.goto 4, 3) := by decide +kernel
theorem dL_law_547 : decode cL_law 547 = .ok (.aload_n 1, 1) := by decide +kernel
theorem dL_law_548 : decode cL_law 548 = .ok (.aload_n 0, 1) := by decide +kernel
theorem dL_law_549 : decode cL_law 549 = .ok (.iload 4, 2) := by decide +kernel
theorem dL_law_551 : decode cL_law 551 = .ok (.iconst 1, 1) := by decide +kernel
theorem dL_law_552 : decode cL_law 552 = .ok (.iadd, 1) := by decide +kernel
theorem dL_law_553 : decode cL_law 553 = .ok (.iaload, 1) := by decide +kernel
theorem dL_law_554 : decode cL_law 554 = .ok (.aload_n 0, 1) := by decide +kernel
theorem dL_law_555 : decode cL_law 555 = .ok (.iload 4, 2) := by decide +kernel
theorem dL_law_557 : decode cL_law 557 = .ok (.iconst 2, 1) := by decide +kernel
theorem dL_law_558 : decode cL_law 558 = .ok (.iadd, 1) := by decide +kernel
theorem dL_law_559 : decode cL_law 559 = .ok (.iaload, 1) := by decide +kernel
theorem dL_law_560 : decode cL_law 560 = .ok (.aload_n 0, 1) := by decide +kernel
theorem dL_law_561 : decode cL_law 561 = .ok (.iload 4, 2) := by decide +kernel
theorem dL_law_563 : decode cL_law 563 = .ok (.iconst 3, 1) := by decide +kernel
theorem dL_law_564 : decode cL_law 564 = .ok (.iadd, 1) := by decide +kernel
theorem dL_law_565 : decode cL_law 565 = .ok (.iaload, 1) := by decide +kernel
theorem dL_law_566 : decode cL_law 566 = .ok (.ifCond .eq 7, 3) := by decide +kernel
theorem dL_law_573 : decode cL_law 573 = .ok (.iconst 0, 1) := by decide +kernel
theorem q_336 : Cond.methodLink "FieldMemberLaw" 65 ⟨"FieldMember", "parameter", "(IIZ)I"⟩ ∈ TT := tt_t (i := 336) (by decide +kernel) (by decide +kernel)
theorem q_339 : Cond.code ⟨"FieldMember", "parameter", "(IIZ)I"⟩ prog_1_method_9_code 5 (some .int) ∈ TT := tt_t (i := 339) (by decide +kernel) (by decide +kernel)
theorem q_337 : Cond.instanceMethod ⟨"FieldMember", "parameter", "(IIZ)I"⟩ ∈ TT := tt_t (i := 337) (by decide +kernel) (by decide +kernel)
theorem q_338 : Cond.selects "FieldMember" ⟨"FieldMember", "parameter", "(IIZ)I"⟩ ⟨"FieldMember", "parameter", "(IIZ)I"⟩ ∈ TT := tt_t (i := 338) (by decide +kernel) (by decide +kernel)
theorem gV_L_X7_parameter : GoodIn TT (wsV RL 65 RX7 yX7_parameter (ww yX7_parameter cX7_parameter 5 (some .int))) := tt_V q_336 q_337 q_338 q_1 q_339
theorem hdV_X7_parameter : yX7_parameter.cls = RX7 ∧ yX7_parameter.cls ≠ "java/lang/invoke/MethodHandle" ∧ yX7_parameter.cls ≠ "java/lang/invoke/VarHandle" ∧ (parseMethodDescriptor yX7_parameter.desc).map (fun d => d.parameters.length) = some 3 := by decide +kernel
theorem dL_law_574 : decode cL_law 574 = .ok (.invokevirtual 65, 3) := by decide +kernel
theorem dL_law_577 : decode cL_law 577 = .ok (.aload_n 2, 1) := by decide +kernel
theorem dL_law_578 : decode cL_law 578 = .ok (.aload_n 0, 1) := by decide +kernel
theorem dL_law_579 : decode cL_law 579 = .ok (.iload 4, 2) := by decide +kernel
theorem dL_law_581 : decode cL_law 581 = .ok (.iconst 1, 1) := by decide +kernel
theorem dL_law_582 : decode cL_law 582 = .ok (.iadd, 1) := by decide +kernel
theorem dL_law_583 : decode cL_law 583 = .ok (.iaload, 1) := by decide +kernel
theorem dL_law_584 : decode cL_law 584 = .ok (.aload_n 0, 1) := by decide +kernel
theorem dL_law_585 : decode cL_law 585 = .ok (.iload 4, 2) := by decide +kernel
theorem dL_law_587 : decode cL_law 587 = .ok (.iconst 2, 1) := by decide +kernel
theorem dL_law_588 : decode cL_law 588 = .ok (.iadd, 1) := by decide +kernel
theorem dL_law_589 : decode cL_law 589 = .ok (.iaload, 1) := by decide +kernel
theorem dL_law_590 : decode cL_law 590 = .ok (.aload_n 0, 1) := by decide +kernel
theorem dL_law_591 : decode cL_law 591 = .ok (.iload 4, 2) := by decide +kernel
theorem dL_law_593 : decode cL_law 593 = .ok (.iconst 3, 1) := by decide +kernel
theorem dL_law_594 : decode cL_law 594 = .ok (.iadd, 1) := by decide +kernel
theorem dL_law_595 : decode cL_law 595 = .ok (.iaload, 1) := by decide +kernel
theorem dL_law_596 : decode cL_law 596 = .ok (.ifCond .eq 7, 3) := by decide +kernel
theorem dL_law_603 : decode cL_law 603 = .ok (.iconst 0, 1) := by decide +kernel
theorem q_890 : Cond.methodLink "FieldMemberLaw" 68 ⟨"FieldMemberModel", "parameter", "(IIZ)I"⟩ ∈ TT := tt_t (i := 890) (by decide +kernel) (by decide +kernel)
theorem q_893 : Cond.code ⟨"FieldMemberModel", "parameter", "(IIZ)I"⟩ prog_10_method_25_code 5 (some .int) ∈ TT := tt_t (i := 893) (by decide +kernel) (by decide +kernel)
theorem q_891 : Cond.instanceMethod ⟨"FieldMemberModel", "parameter", "(IIZ)I"⟩ ∈ TT := tt_t (i := 891) (by decide +kernel) (by decide +kernel)
theorem q_892 : Cond.selects "FieldMemberModel" ⟨"FieldMemberModel", "parameter", "(IIZ)I"⟩ ⟨"FieldMemberModel", "parameter", "(IIZ)I"⟩ ∈ TT := tt_t (i := 892) (by decide +kernel) (by decide +kernel)
theorem gV_L_X8_parameter : GoodIn TT (wsV RL 68 RX8 yX8_parameter (ww yX8_parameter cX8_parameter 5 (some .int))) := tt_V q_890 q_891 q_892 q_4 q_893
theorem hdV_X8_parameter : yX8_parameter.cls = RX8 ∧ yX8_parameter.cls ≠ "java/lang/invoke/MethodHandle" ∧ yX8_parameter.cls ≠ "java/lang/invoke/VarHandle" ∧ (parseMethodDescriptor yX8_parameter.desc).map (fun d => d.parameters.length) = some 3 := by decide +kernel
theorem dL_law_604 : decode cL_law 604 = .ok (.invokevirtual 68, 3) := by decide +kernel
theorem dL_law_607 : decode cL_law 607 = .ok (.if_icmp .eq 412, 3) := by decide +kernel
theorem dL_law_569 : decode cL_law 569 = .ok (.iconst 1, 1) := by decide +kernel
theorem dL_law_570 : decode cL_law 570 = .ok (.goto 4, 3) := by decide +kernel
theorem dL_law_599 : decode cL_law 599 = .ok (.iconst 1, 1) := by decide +kernel
theorem dL_law_600 : decode cL_law 600 = .ok (.goto 4, 3) := by decide +kernel
theorem dL_law_612 : decode cL_law 612 = .ok (.aload_n 1, 1) := by decide +kernel
theorem q_352 : Cond.methodLink "FieldMemberLaw" 69 ⟨"FieldMember", "end", "()I"⟩ ∈ TT := tt_t (i := 352) (by decide +kernel) (by decide +kernel)
theorem q_355 : Cond.code ⟨"FieldMember", "end", "()I"⟩ prog_1_method_10_code 3 (some .int) ∈ TT := tt_t (i := 355) (by decide +kernel) (by decide +kernel)
theorem q_353 : Cond.instanceMethod ⟨"FieldMember", "end", "()I"⟩ ∈ TT := tt_t (i := 353) (by decide +kernel) (by decide +kernel)
theorem q_354 : Cond.selects "FieldMember" ⟨"FieldMember", "end", "()I"⟩ ⟨"FieldMember", "end", "()I"⟩ ∈ TT := tt_t (i := 354) (by decide +kernel) (by decide +kernel)
theorem gV_L_X7_end : GoodIn TT (wsV RL 69 RX7 yX7_end (ww yX7_end cX7_end 3 (some .int))) := tt_V q_352 q_353 q_354 q_1 q_355
theorem hdV_X7_end : yX7_end.cls = RX7 ∧ yX7_end.cls ≠ "java/lang/invoke/MethodHandle" ∧ yX7_end.cls ≠ "java/lang/invoke/VarHandle" ∧ (parseMethodDescriptor yX7_end.desc).map (fun d => d.parameters.length) = some 0 := by decide +kernel
theorem dL_law_613 : decode cL_law 613 = .ok (.invokevirtual 69, 3) := by decide +kernel
theorem dL_law_616 : decode cL_law 616 = .ok (.aload_n 2, 1) := by decide +kernel
theorem q_894 : Cond.methodLink "FieldMemberLaw" 72 ⟨"FieldMemberModel", "end", "()I"⟩ ∈ TT := tt_t (i := 894) (by decide +kernel) (by decide +kernel)
theorem q_897 : Cond.code ⟨"FieldMemberModel", "end", "()I"⟩ prog_10_method_31_code 4 (some .int) ∈ TT := tt_t (i := 897) (by decide +kernel) (by decide +kernel)
theorem q_895 : Cond.instanceMethod ⟨"FieldMemberModel", "end", "()I"⟩ ∈ TT := tt_t (i := 895) (by decide +kernel) (by decide +kernel)
theorem q_896 : Cond.selects "FieldMemberModel" ⟨"FieldMemberModel", "end", "()I"⟩ ⟨"FieldMemberModel", "end", "()I"⟩ ∈ TT := tt_t (i := 896) (by decide +kernel) (by decide +kernel)
theorem gV_L_X8_end : GoodIn TT (wsV RL 72 RX8 yX8_end (ww yX8_end cX8_end 4 (some .int))) := tt_V q_894 q_895 q_896 q_4 q_897
theorem hdV_X8_end : yX8_end.cls = RX8 ∧ yX8_end.cls ≠ "java/lang/invoke/MethodHandle" ∧ yX8_end.cls ≠ "java/lang/invoke/VarHandle" ∧ (parseMethodDescriptor yX8_end.desc).map (fun d => d.parameters.length) = some 0 := by decide +kernel
theorem dL_law_617 : decode cL_law 617 = .ok (.invokevirtual 72, 3) := by decide +kernel
theorem dL_law_620 : decode cL_law 620 = .ok (.if_icmp .eq 399, 3) := by decide +kernel
theorem dL_law_625 : decode cL_law 625 = .ok (.aload_n 1, 1) := by decide +kernel
theorem dL_law_626 : decode cL_law 626 = .ok (.aload_n 0, 1) := by decide +kernel
theorem dL_law_627 : decode cL_law 627 = .ok (.iload 4, 2) := by decide +kernel
theorem dL_law_629 : decode cL_law 629 = .ok (.iconst 1, 1) := by decide +kernel
theorem dL_law_630 : decode cL_law 630 = .ok (.iadd, 1) := by decide +kernel
theorem dL_law_631 : decode cL_law 631 = .ok (.iaload, 1) := by decide +kernel
theorem dL_law_632 : decode cL_law 632 = .ok (.aload_n 0, 1) := by decide +kernel
theorem dL_law_633 : decode cL_law 633 = .ok (.iload 4, 2) := by decide +kernel
theorem dL_law_635 : decode cL_law 635 = .ok (.iconst 2, 1) := by decide +kernel
theorem dL_law_636 : decode cL_law 636 = .ok (.iadd, 1) := by decide +kernel
theorem dL_law_637 : decode cL_law 637 = .ok (.iaload, 1) := by decide +kernel
theorem q_410 : Cond.methodLink "FieldMemberLaw" 73 ⟨"FieldMember", "entry", "(II)I"⟩ ∈ TT := tt_t (i := 410) (by decide +kernel) (by decide +kernel)
theorem q_413 : Cond.code ⟨"FieldMember", "entry", "(II)I"⟩ prog_1_method_11_code 4 (some .int) ∈ TT := tt_t (i := 413) (by decide +kernel) (by decide +kernel)
theorem q_411 : Cond.instanceMethod ⟨"FieldMember", "entry", "(II)I"⟩ ∈ TT := tt_t (i := 411) (by decide +kernel) (by decide +kernel)
theorem q_412 : Cond.selects "FieldMember" ⟨"FieldMember", "entry", "(II)I"⟩ ⟨"FieldMember", "entry", "(II)I"⟩ ∈ TT := tt_t (i := 412) (by decide +kernel) (by decide +kernel)
theorem gV_L_X7_entry : GoodIn TT (wsV RL 73 RX7 yX7_entry (ww yX7_entry cX7_entry 4 (some .int))) := tt_V q_410 q_411 q_412 q_1 q_413
theorem hdV_X7_entry : yX7_entry.cls = RX7 ∧ yX7_entry.cls ≠ "java/lang/invoke/MethodHandle" ∧ yX7_entry.cls ≠ "java/lang/invoke/VarHandle" ∧ (parseMethodDescriptor yX7_entry.desc).map (fun d => d.parameters.length) = some 2 := by decide +kernel
theorem dL_law_638 : decode cL_law 638 = .ok (.invokevirtual 73, 3) := by decide +kernel
theorem dL_law_641 : decode cL_law 641 = .ok (.aload_n 2, 1) := by decide +kernel
theorem dL_law_642 : decode cL_law 642 = .ok (.aload_n 0, 1) := by decide +kernel
theorem dL_law_643 : decode cL_law 643 = .ok (.iload 4, 2) := by decide +kernel
theorem dL_law_645 : decode cL_law 645 = .ok (.iconst 1, 1) := by decide +kernel
theorem dL_law_646 : decode cL_law 646 = .ok (.iadd, 1) := by decide +kernel
theorem dL_law_647 : decode cL_law 647 = .ok (.iaload, 1) := by decide +kernel
theorem dL_law_648 : decode cL_law 648 = .ok (.aload_n 0, 1) := by decide +kernel
theorem dL_law_649 : decode cL_law 649 = .ok (.iload 4, 2) := by decide +kernel
theorem dL_law_651 : decode cL_law 651 = .ok (.iconst 2, 1) := by decide +kernel
theorem dL_law_652 : decode cL_law 652 = .ok (.iadd, 1) := by decide +kernel
theorem dL_law_653 : decode cL_law 653 = .ok (.iaload, 1) := by decide +kernel
theorem q_922 : Cond.methodLink "FieldMemberLaw" 76 ⟨"FieldMemberModel", "entry", "(II)I"⟩ ∈ TT := tt_t (i := 922) (by decide +kernel) (by decide +kernel)
theorem q_925 : Cond.code ⟨"FieldMemberModel", "entry", "(II)I"⟩ prog_10_method_32_code 3 (some .int) ∈ TT := tt_t (i := 925) (by decide +kernel) (by decide +kernel)
theorem q_923 : Cond.instanceMethod ⟨"FieldMemberModel", "entry", "(II)I"⟩ ∈ TT := tt_t (i := 923) (by decide +kernel) (by decide +kernel)
theorem q_924 : Cond.selects "FieldMemberModel" ⟨"FieldMemberModel", "entry", "(II)I"⟩ ⟨"FieldMemberModel", "entry", "(II)I"⟩ ∈ TT := tt_t (i := 924) (by decide +kernel) (by decide +kernel)
theorem gV_L_X8_entry : GoodIn TT (wsV RL 76 RX8 yX8_entry (ww yX8_entry cX8_entry 3 (some .int))) := tt_V q_922 q_923 q_924 q_4 q_925
theorem hdV_X8_entry : yX8_entry.cls = RX8 ∧ yX8_entry.cls ≠ "java/lang/invoke/MethodHandle" ∧ yX8_entry.cls ≠ "java/lang/invoke/VarHandle" ∧ (parseMethodDescriptor yX8_entry.desc).map (fun d => d.parameters.length) = some 2 := by decide +kernel
theorem dL_law_654 : decode cL_law 654 = .ok (.invokevirtual 76, 3) := by decide +kernel
theorem dL_law_657 : decode cL_law 657 = .ok (.if_icmp .eq 362, 3) := by decide +kernel
set_option maxHeartbeats 1600000 in
set_option maxRecDepth 100000 in
theorem lc_member {p : Program} {l : Launch} {e : Env} {s : State} {m : MethodId} {below : List Frame} {meth : Method} {c : Code} {b L : Nat} {xs : Nat → Int32} {D : va_G} {G : Nat → ClassId} {sa : Nat → Nat} {ca : Nat → Nat} {mo : Nat} {ad : Nat → Nat} {o : Nat} {Q : State → Prop} (C0 : LCx p l s m c b L xs D G sa) {j : Nat} (hj : 7 * j + 6 < L) {u : MU} {H : Heap} {locs : List Loc} {ls : Array Slot} {cells slots : Nat} (hW : LW s D G ca mo ad o u H locs) (hl : lv_has ls 8 [(4, .int (nI (7 * j))), (3, .ref o), (2, .ref mo), (1, .ref (ca 0)), (0, .ref b)]) (hc : cells + 4 ≤ 603072 ∧ slots + 22 ≤ 7262314)
    (kk : ∀ (u : MU) (H : Heap) (locs : List Loc) (ls : Array Slot), LW s D G ca mo ad o u H locs → lv_has ls 8 [(4, .int (nI (7 * j))), (3, .ref o), (2, .ref mo), (1, .ref (ca 0)), (0, .ref b)] → W p l e room_1 s m #[Value.ref b] below meth c H locs (cells + 4) (slots + 22) Q (F0 m 1019 ls [])) : W p l e room_1 s m #[Value.ref b] below meth c H locs cells slots Q (F0 m 444 ls []) := by
  obtain ⟨hx, hb, hml, hown, hts, hX, hbl, hK, hXS, hXZ, hst, hL⟩ := id C0
  have hbA : ¬ (fun q : Nat => s.heap.size ≤ q) b := Nat.not_le.mpr hbl
  have hA : ∀ q : Nat, s.heap.size ≤ q → (fun q : Nat => s.heap.size ≤ q) q := fun _ h => h
  obtain ⟨σ, τ⟩ := u
  obtain ⟨f, z, ⟨n, k, w0, κ, x, hV, hC⟩, hP, hD, hS⟩ := hW
  have hP : va_P D vwCl ((mW G mo ad σ τ ++ [(o, .inl (G 1, 1, .inr (.inl f)))]) ++ z) H := hP
  have hD : va_D (fun q => s.heap.size ≤ q) ((mW G mo ad σ τ ++ [(o, .inl (G 1, 1, .inr (.inl f)))]) ++ z) := hD
  have hV : IV σ x τ κ n k w0 := hV
  have hC : CW G ca σ x κ k z := hC
  refine lv_aload_n hx hb dL_law_444 rfl (lv_at hl 3 rfl) ?_
  refine lv_aload_n hx hb dL_law_445 rfl (lv_at hl 4 rfl) ?_
  refine lv_iload hx hb dL_law_446 (lv_at hl 0 rfl) ?_
  refine lv_iconst (v := 1) hx hb dL_law_448 (by decide) ?_
  refine lv_iadd hx hb dL_law_449 ?_
  refine sld_n hx hb hX hbl hbA hS hL ((7 * j) + 1) (n_add (a := (7 * j)) (b := 1) rfl (rfl : (1 : Int32) = nI 1)) (by omega) dL_law_450 ?_
  refine lv_aload_n hx hb dL_law_451 rfl (lv_at hl 4 rfl) ?_
  refine lv_iload hx hb dL_law_452 (lv_at hl 0 rfl) ?_
  refine lv_iconst (v := 2) hx hb dL_law_454 (by decide) ?_
  refine lv_iadd hx hb dL_law_455 ?_
  refine sld_n hx hb hX hbl hbA hS hL ((7 * j) + 2) (n_add (a := (7 * j)) (b := 2) rfl (rfl : (2 : Int32) = nI 2)) (by omega) dL_law_456 ?_
  refine lv_aload_n hx hb dL_law_457 rfl (lv_at hl 4 rfl) ?_
  refine lv_iload hx hb dL_law_458 (lv_at hl 0 rfl) ?_
  refine lv_iconst (v := 3) hx hb dL_law_460 (by decide) ?_
  refine lv_iadd hx hb dL_law_461 ?_
  refine sld_n hx hb hX hbl hbA hS hL ((7 * j) + 3) (n_add (a := (7 * j)) (b := 3) rfl (rfl : (3 : Int32) = nI 3)) (by omega) dL_law_462 ?_
  refine lv_aload_n hx hb dL_law_463 rfl (lv_at hl 4 rfl) ?_
  refine lv_iload hx hb dL_law_464 (lv_at hl 0 rfl) ?_
  refine lv_iconst (v := 4) hx hb dL_law_466 (by decide) ?_
  refine lv_iadd hx hb dL_law_467 ?_
  refine sld_n hx hb hX hbl hbA hS hL ((7 * j) + 4) (n_add (a := (7 * j)) (b := 4) rfl (rfl : (4 : Int32) = nI 4)) (by omega) dL_law_468 ?_
  refine lv_aload_n hx hb dL_law_469 rfl (lv_at hl 4 rfl) ?_
  refine lv_iload hx hb dL_law_470 (lv_at hl 0 rfl) ?_
  refine lv_iconst (v := 5) hx hb dL_law_472 (by decide) ?_
  refine lv_iadd hx hb dL_law_473 ?_
  refine sld_n hx hb hX hbl hbA hS hL ((7 * j) + 5) (n_add (a := (7 * j)) (b := 5) rfl (rfl : (5 : Int32) = nI 5)) (by omega) dL_law_474 ?_
  refine lv_aload_n hx hb dL_law_475 rfl (lv_at hl 4 rfl) ?_
  refine lv_iload hx hb dL_law_476 (lv_at hl 0 rfl) ?_
  refine lv_bipush (v := 6) hx hb dL_law_478 (by decide) ?_
  refine lv_iadd hx hb dL_law_480 ?_
  refine sld_n hx hb hX hbl hbA hS hL ((7 * j) + 6) (n_add (a := (7 * j)) (b := 6) rfl (rfl : (6 : Int32) = nI 6)) (by omega) dL_law_481 ?_
  refine lv_if_eq (tgt := 489) hx hb dL_law_482 (by decide) (fun c1 => ?_) (fun c1 => ?_)
  · -- 482 taken
    refine lv_iconst (v := 0) hx hb dL_law_489 (by decide) ?_
    refine fr_Vc (wr := mW G mo ad σ τ ++ [(o, .inl (G 1, 1, .inr (.inl f)))]) (wc := z) (As := [.int (xs ((7 * j) + 1)), .int (xs ((7 * j) + 2)), .int (xs ((7 * j) + 3)), .int (xs ((7 * j) + 4)), .int (xs ((7 * j) + 5)), .int 0]) (rest := []) ⟨hx, hb, hml, hown, hts⟩ (u_member l D G ca n k w0 σ x τ κ z _ hV hC (xs ((7 * j) + 1)) (xs ((7 * j) + 2)) (xs ((7 * j) + 3)) (xs ((7 * j) + 4)) (xs ((7 * j) + 5)) 0 (Or.inl rfl)) gV_L_X7_member hdV_X7_member ⟨(Nat.le_of_ble_eq_true rfl), (Nat.le_of_ble_eq_true rfl)⟩ hK (hC.recv hK (fr_P hP)) hP hD hS hA rfl hl.1 rfl (Nat.le_of_ble_eq_true rfl) dL_law_490 ⟨(show cells + 4 ≤ 603072 by omega), (show slots + 22 ≤ 7262314 by omega)⟩ (fun z H locs hN hP hD hS => ?_)
    refine W.eq (g2 := F0 m 493 ls [.int ((oMember σ τ n k (xs ((7 * j) + 1)) (xs ((7 * j) + 2)) (xs ((7 * j) + 3)) (xs ((7 * j) + 4)) (xs ((7 * j) + 5)) 0).1)]) rfl ?_
    refine lv_aload_n hx hb dL_law_493 rfl (lv_at hl 2 rfl) ?_
    refine lv_aload_n hx hb dL_law_494 rfl (lv_at hl 4 rfl) ?_
    refine lv_iload hx hb dL_law_495 (lv_at hl 0 rfl) ?_
    refine lv_iconst (v := 1) hx hb dL_law_497 (by decide) ?_
    refine lv_iadd hx hb dL_law_498 ?_
    refine sld_n hx hb hX hbl hbA hS hL ((7 * j) + 1) (n_add (a := (7 * j)) (b := 1) rfl (rfl : (1 : Int32) = nI 1)) (by omega) dL_law_499 ?_
    refine lv_aload_n hx hb dL_law_500 rfl (lv_at hl 4 rfl) ?_
    refine lv_iload hx hb dL_law_501 (lv_at hl 0 rfl) ?_
    refine lv_iconst (v := 2) hx hb dL_law_503 (by decide) ?_
    refine lv_iadd hx hb dL_law_504 ?_
    refine sld_n hx hb hX hbl hbA hS hL ((7 * j) + 2) (n_add (a := (7 * j)) (b := 2) rfl (rfl : (2 : Int32) = nI 2)) (by omega) dL_law_505 ?_
    refine lv_aload_n hx hb dL_law_506 rfl (lv_at hl 4 rfl) ?_
    refine lv_iload hx hb dL_law_507 (lv_at hl 0 rfl) ?_
    refine lv_iconst (v := 3) hx hb dL_law_509 (by decide) ?_
    refine lv_iadd hx hb dL_law_510 ?_
    refine sld_n hx hb hX hbl hbA hS hL ((7 * j) + 3) (n_add (a := (7 * j)) (b := 3) rfl (rfl : (3 : Int32) = nI 3)) (by omega) dL_law_511 ?_
    refine lv_aload_n hx hb dL_law_512 rfl (lv_at hl 4 rfl) ?_
    refine lv_iload hx hb dL_law_513 (lv_at hl 0 rfl) ?_
    refine lv_iconst (v := 4) hx hb dL_law_515 (by decide) ?_
    refine lv_iadd hx hb dL_law_516 ?_
    refine sld_n hx hb hX hbl hbA hS hL ((7 * j) + 4) (n_add (a := (7 * j)) (b := 4) rfl (rfl : (4 : Int32) = nI 4)) (by omega) dL_law_517 ?_
    refine lv_aload_n hx hb dL_law_518 rfl (lv_at hl 4 rfl) ?_
    refine lv_iload hx hb dL_law_519 (lv_at hl 0 rfl) ?_
    refine lv_iconst (v := 5) hx hb dL_law_521 (by decide) ?_
    refine lv_iadd hx hb dL_law_522 ?_
    refine sld_n hx hb hX hbl hbA hS hL ((7 * j) + 5) (n_add (a := (7 * j)) (b := 5) rfl (rfl : (5 : Int32) = nI 5)) (by omega) dL_law_523 ?_
    refine lv_aload_n hx hb dL_law_524 rfl (lv_at hl 4 rfl) ?_
    refine lv_iload hx hb dL_law_525 (lv_at hl 0 rfl) ?_
    refine lv_bipush (v := 6) hx hb dL_law_527 (by decide) ?_
    refine lv_iadd hx hb dL_law_529 ?_
    refine sld_n hx hb hX hbl hbA hS hL ((7 * j) + 6) (n_add (a := (7 * j)) (b := 6) rfl (rfl : (6 : Int32) = nI 6)) (by omega) dL_law_530 ?_
    refine lv_if_eq (tgt := 538) hx hb dL_law_531 (by decide) (fun hh => ?_) (fun hh => absurd c1 hh)
    refine lv_iconst (v := 0) hx hb dL_law_538 (by decide) ?_
    have hP := P_perm hP pm_m
    have hD := D_perm pm_m hD
    have hP : va_P D vwCl (([(o, .inl (G 1, 1, .inr (.inl f)))] ++ z) ++ mW G mo ad σ τ) H := hP
    have hD : va_D (fun q => s.heap.size ≤ q) (([(o, .inl (G 1, 1, .inr (.inl f)))] ++ z) ++ mW G mo ad σ τ) := hD
    refine fr_Vm (wr := [(o, .inl (G 1, 1, .inr (.inl f)))] ++ z) (u := (σ, τ)) (v := (oMember σ τ n k (xs ((7 * j) + 1)) (xs ((7 * j) + 2)) (xs ((7 * j) + 3)) (xs ((7 * j) + 4)) (xs ((7 * j) + 5)) 0).2) (mo := mo) (ad := ad) (As := [.int (xs ((7 * j) + 1)), .int (xs ((7 * j) + 2)), .int (xs ((7 * j) + 3)), .int (xs ((7 * j) + 4)), .int (xs ((7 * j) + 5)), .int 0]) (rest := [.int ((oMember σ τ n k (xs ((7 * j) + 1)) (xs ((7 * j) + 2)) (xs ((7 * j) + 3)) (xs ((7 * j) + 4)) (xs ((7 * j) + 5)) 0).1)]) ⟨hx, hb, hml, hown, hts⟩ (m_member l D G mo ad σ τ _ n hV.1.1.1 hV.1.1.2 k hV.1.2.1.1 hV.1.2.1.2  (xs ((7 * j) + 1)) (xs ((7 * j) + 2)) (xs ((7 * j) + 3)) (xs ((7 * j) + 4)) (xs ((7 * j) + 5)) 0 (Or.inl rfl)) gV_L_X8_member hdV_X8_member ⟨(Nat.le_of_ble_eq_true rfl), (Nat.le_of_ble_eq_true rfl)⟩ hK hP hD hS hA rfl hl.1 rfl (Nat.le_of_ble_eq_true rfl) dL_law_539 ⟨(show cells + 4 ≤ 603072 by omega), (show slots + 22 ≤ 7262314 by omega)⟩ (fun H locs hP hD hS => ?_)
    have hP := P_perm hP pm_r
    have hD := D_perm pm_r hD
    have hP : va_P D vwCl ((mW G mo ad (oMember σ τ n k (xs ((7 * j) + 1)) (xs ((7 * j) + 2)) (xs ((7 * j) + 3)) (xs ((7 * j) + 4)) (xs ((7 * j) + 5)) 0).2.1 (oMember σ τ n k (xs ((7 * j) + 1)) (xs ((7 * j) + 2)) (xs ((7 * j) + 3)) (xs ((7 * j) + 4)) (xs ((7 * j) + 5)) 0).2.2 ++ [(o, .inl (G 1, 1, .inr (.inl f)))]) ++ z) H := hP
    have hD : va_D (fun q => s.heap.size ≤ q) ((mW G mo ad (oMember σ τ n k (xs ((7 * j) + 1)) (xs ((7 * j) + 2)) (xs ((7 * j) + 3)) (xs ((7 * j) + 4)) (xs ((7 * j) + 5)) 0).2.1 (oMember σ τ n k (xs ((7 * j) + 1)) (xs ((7 * j) + 2)) (xs ((7 * j) + 3)) (xs ((7 * j) + 4)) (xs ((7 * j) + 5)) 0).2.2 ++ [(o, .inl (G 1, 1, .inr (.inl f)))]) ++ z) := hD
    refine W.eq (g2 := F0 m 542 ls [.int ((oMember σ τ n k (xs ((7 * j) + 1)) (xs ((7 * j) + 2)) (xs ((7 * j) + 3)) (xs ((7 * j) + 4)) (xs ((7 * j) + 5)) 0).1), .int ((oMember σ τ n k (xs ((7 * j) + 1)) (xs ((7 * j) + 2)) (xs ((7 * j) + 3)) (xs ((7 * j) + 4)) (xs ((7 * j) + 5)) 0).1)]) rfl ?_
    refine lv_icmp_eq (tgt := 1019) hx hb dL_law_542 (by decide) (fun hh => ?_) (fun hh => absurd rfl hh)
    refine W.widen (k := cells + 4) (n := slots + 22) (by omega) (by omega) ?_
    exact kk (oMember σ τ n k (xs ((7 * j) + 1)) (xs ((7 * j) + 2)) (xs ((7 * j) + 3)) (xs ((7 * j) + 4)) (xs ((7 * j) + 5)) 0).2 _ _ _ ⟨f, z, hN, hP, hD, hS⟩ (lv_sub hl [0, 1, 2, 3, 4] rfl)
  · -- 482 not
    refine lv_iconst (v := 1) hx hb dL_law_485 (by decide) ?_
    refine lv_goto (tgt := 490) hx hb dL_law_486 (by decide) ?_
    refine fr_Vc (wr := mW G mo ad σ τ ++ [(o, .inl (G 1, 1, .inr (.inl f)))]) (wc := z) (As := [.int (xs ((7 * j) + 1)), .int (xs ((7 * j) + 2)), .int (xs ((7 * j) + 3)), .int (xs ((7 * j) + 4)), .int (xs ((7 * j) + 5)), .int 1]) (rest := []) ⟨hx, hb, hml, hown, hts⟩ (u_member l D G ca n k w0 σ x τ κ z _ hV hC (xs ((7 * j) + 1)) (xs ((7 * j) + 2)) (xs ((7 * j) + 3)) (xs ((7 * j) + 4)) (xs ((7 * j) + 5)) 1 (Or.inr rfl)) gV_L_X7_member hdV_X7_member ⟨(Nat.le_of_ble_eq_true rfl), (Nat.le_of_ble_eq_true rfl)⟩ hK (hC.recv hK (fr_P hP)) hP hD hS hA rfl hl.1 rfl (Nat.le_of_ble_eq_true rfl) dL_law_490 ⟨(show cells + 4 ≤ 603072 by omega), (show slots + 22 ≤ 7262314 by omega)⟩ (fun z H locs hN hP hD hS => ?_)
    refine W.eq (g2 := F0 m 493 ls [.int ((oMember σ τ n k (xs ((7 * j) + 1)) (xs ((7 * j) + 2)) (xs ((7 * j) + 3)) (xs ((7 * j) + 4)) (xs ((7 * j) + 5)) 1).1)]) rfl ?_
    refine lv_aload_n hx hb dL_law_493 rfl (lv_at hl 2 rfl) ?_
    refine lv_aload_n hx hb dL_law_494 rfl (lv_at hl 4 rfl) ?_
    refine lv_iload hx hb dL_law_495 (lv_at hl 0 rfl) ?_
    refine lv_iconst (v := 1) hx hb dL_law_497 (by decide) ?_
    refine lv_iadd hx hb dL_law_498 ?_
    refine sld_n hx hb hX hbl hbA hS hL ((7 * j) + 1) (n_add (a := (7 * j)) (b := 1) rfl (rfl : (1 : Int32) = nI 1)) (by omega) dL_law_499 ?_
    refine lv_aload_n hx hb dL_law_500 rfl (lv_at hl 4 rfl) ?_
    refine lv_iload hx hb dL_law_501 (lv_at hl 0 rfl) ?_
    refine lv_iconst (v := 2) hx hb dL_law_503 (by decide) ?_
    refine lv_iadd hx hb dL_law_504 ?_
    refine sld_n hx hb hX hbl hbA hS hL ((7 * j) + 2) (n_add (a := (7 * j)) (b := 2) rfl (rfl : (2 : Int32) = nI 2)) (by omega) dL_law_505 ?_
    refine lv_aload_n hx hb dL_law_506 rfl (lv_at hl 4 rfl) ?_
    refine lv_iload hx hb dL_law_507 (lv_at hl 0 rfl) ?_
    refine lv_iconst (v := 3) hx hb dL_law_509 (by decide) ?_
    refine lv_iadd hx hb dL_law_510 ?_
    refine sld_n hx hb hX hbl hbA hS hL ((7 * j) + 3) (n_add (a := (7 * j)) (b := 3) rfl (rfl : (3 : Int32) = nI 3)) (by omega) dL_law_511 ?_
    refine lv_aload_n hx hb dL_law_512 rfl (lv_at hl 4 rfl) ?_
    refine lv_iload hx hb dL_law_513 (lv_at hl 0 rfl) ?_
    refine lv_iconst (v := 4) hx hb dL_law_515 (by decide) ?_
    refine lv_iadd hx hb dL_law_516 ?_
    refine sld_n hx hb hX hbl hbA hS hL ((7 * j) + 4) (n_add (a := (7 * j)) (b := 4) rfl (rfl : (4 : Int32) = nI 4)) (by omega) dL_law_517 ?_
    refine lv_aload_n hx hb dL_law_518 rfl (lv_at hl 4 rfl) ?_
    refine lv_iload hx hb dL_law_519 (lv_at hl 0 rfl) ?_
    refine lv_iconst (v := 5) hx hb dL_law_521 (by decide) ?_
    refine lv_iadd hx hb dL_law_522 ?_
    refine sld_n hx hb hX hbl hbA hS hL ((7 * j) + 5) (n_add (a := (7 * j)) (b := 5) rfl (rfl : (5 : Int32) = nI 5)) (by omega) dL_law_523 ?_
    refine lv_aload_n hx hb dL_law_524 rfl (lv_at hl 4 rfl) ?_
    refine lv_iload hx hb dL_law_525 (lv_at hl 0 rfl) ?_
    refine lv_bipush (v := 6) hx hb dL_law_527 (by decide) ?_
    refine lv_iadd hx hb dL_law_529 ?_
    refine sld_n hx hb hX hbl hbA hS hL ((7 * j) + 6) (n_add (a := (7 * j)) (b := 6) rfl (rfl : (6 : Int32) = nI 6)) (by omega) dL_law_530 ?_
    refine lv_if_eq (tgt := 538) hx hb dL_law_531 (by decide) (fun hh => absurd hh c1) (fun hh => ?_)
    refine lv_iconst (v := 1) hx hb dL_law_534 (by decide) ?_
    refine lv_goto (tgt := 539) hx hb dL_law_535 (by decide) ?_
    have hP := P_perm hP pm_m
    have hD := D_perm pm_m hD
    have hP : va_P D vwCl (([(o, .inl (G 1, 1, .inr (.inl f)))] ++ z) ++ mW G mo ad σ τ) H := hP
    have hD : va_D (fun q => s.heap.size ≤ q) (([(o, .inl (G 1, 1, .inr (.inl f)))] ++ z) ++ mW G mo ad σ τ) := hD
    refine fr_Vm (wr := [(o, .inl (G 1, 1, .inr (.inl f)))] ++ z) (u := (σ, τ)) (v := (oMember σ τ n k (xs ((7 * j) + 1)) (xs ((7 * j) + 2)) (xs ((7 * j) + 3)) (xs ((7 * j) + 4)) (xs ((7 * j) + 5)) 1).2) (mo := mo) (ad := ad) (As := [.int (xs ((7 * j) + 1)), .int (xs ((7 * j) + 2)), .int (xs ((7 * j) + 3)), .int (xs ((7 * j) + 4)), .int (xs ((7 * j) + 5)), .int 1]) (rest := [.int ((oMember σ τ n k (xs ((7 * j) + 1)) (xs ((7 * j) + 2)) (xs ((7 * j) + 3)) (xs ((7 * j) + 4)) (xs ((7 * j) + 5)) 1).1)]) ⟨hx, hb, hml, hown, hts⟩ (m_member l D G mo ad σ τ _ n hV.1.1.1 hV.1.1.2 k hV.1.2.1.1 hV.1.2.1.2  (xs ((7 * j) + 1)) (xs ((7 * j) + 2)) (xs ((7 * j) + 3)) (xs ((7 * j) + 4)) (xs ((7 * j) + 5)) 1 (Or.inr rfl)) gV_L_X8_member hdV_X8_member ⟨(Nat.le_of_ble_eq_true rfl), (Nat.le_of_ble_eq_true rfl)⟩ hK hP hD hS hA rfl hl.1 rfl (Nat.le_of_ble_eq_true rfl) dL_law_539 ⟨(show cells + 4 ≤ 603072 by omega), (show slots + 22 ≤ 7262314 by omega)⟩ (fun H locs hP hD hS => ?_)
    have hP := P_perm hP pm_r
    have hD := D_perm pm_r hD
    have hP : va_P D vwCl ((mW G mo ad (oMember σ τ n k (xs ((7 * j) + 1)) (xs ((7 * j) + 2)) (xs ((7 * j) + 3)) (xs ((7 * j) + 4)) (xs ((7 * j) + 5)) 1).2.1 (oMember σ τ n k (xs ((7 * j) + 1)) (xs ((7 * j) + 2)) (xs ((7 * j) + 3)) (xs ((7 * j) + 4)) (xs ((7 * j) + 5)) 1).2.2 ++ [(o, .inl (G 1, 1, .inr (.inl f)))]) ++ z) H := hP
    have hD : va_D (fun q => s.heap.size ≤ q) ((mW G mo ad (oMember σ τ n k (xs ((7 * j) + 1)) (xs ((7 * j) + 2)) (xs ((7 * j) + 3)) (xs ((7 * j) + 4)) (xs ((7 * j) + 5)) 1).2.1 (oMember σ τ n k (xs ((7 * j) + 1)) (xs ((7 * j) + 2)) (xs ((7 * j) + 3)) (xs ((7 * j) + 4)) (xs ((7 * j) + 5)) 1).2.2 ++ [(o, .inl (G 1, 1, .inr (.inl f)))]) ++ z) := hD
    refine W.eq (g2 := F0 m 542 ls [.int ((oMember σ τ n k (xs ((7 * j) + 1)) (xs ((7 * j) + 2)) (xs ((7 * j) + 3)) (xs ((7 * j) + 4)) (xs ((7 * j) + 5)) 1).1), .int ((oMember σ τ n k (xs ((7 * j) + 1)) (xs ((7 * j) + 2)) (xs ((7 * j) + 3)) (xs ((7 * j) + 4)) (xs ((7 * j) + 5)) 1).1)]) rfl ?_
    refine lv_icmp_eq (tgt := 1019) hx hb dL_law_542 (by decide) (fun hh => ?_) (fun hh => absurd rfl hh)
    refine W.widen (k := cells + 4) (n := slots + 22) (by omega) (by omega) ?_
    exact kk (oMember σ τ n k (xs ((7 * j) + 1)) (xs ((7 * j) + 2)) (xs ((7 * j) + 3)) (xs ((7 * j) + 4)) (xs ((7 * j) + 5)) 1).2 _ _ _ ⟨f, z, hN, hP, hD, hS⟩ (lv_sub hl [0, 1, 2, 3, 4] rfl)
set_option maxHeartbeats 1600000 in
set_option maxRecDepth 100000 in
theorem lc_parameter {p : Program} {l : Launch} {e : Env} {s : State} {m : MethodId} {below : List Frame} {meth : Method} {c : Code} {b L : Nat} {xs : Nat → Int32} {D : va_G} {G : Nat → ClassId} {sa : Nat → Nat} {ca : Nat → Nat} {mo : Nat} {ad : Nat → Nat} {o : Nat} {Q : State → Prop} (C0 : LCx p l s m c b L xs D G sa) {j : Nat} (hj : 7 * j + 6 < L) {u : MU} {H : Heap} {locs : List Loc} {ls : Array Slot} {cells slots : Nat} (hW : LW s D G ca mo ad o u H locs) (hl : lv_has ls 8 [(4, .int (nI (7 * j))), (3, .ref o), (2, .ref mo), (1, .ref (ca 0)), (0, .ref b)]) (hc : cells + 4 ≤ 603072 ∧ slots + 22 ≤ 7262314)
    (kk : ∀ (u : MU) (H : Heap) (locs : List Loc) (ls : Array Slot), LW s D G ca mo ad o u H locs → lv_has ls 8 [(4, .int (nI (7 * j))), (3, .ref o), (2, .ref mo), (1, .ref (ca 0)), (0, .ref b)] → W p l e room_1 s m #[Value.ref b] below meth c H locs (cells + 4) (slots + 22) Q (F0 m 1019 ls [])) : W p l e room_1 s m #[Value.ref b] below meth c H locs cells slots Q (F0 m 547 ls []) := by
  obtain ⟨hx, hb, hml, hown, hts, hX, hbl, hK, hXS, hXZ, hst, hL⟩ := id C0
  have hbA : ¬ (fun q : Nat => s.heap.size ≤ q) b := Nat.not_le.mpr hbl
  have hA : ∀ q : Nat, s.heap.size ≤ q → (fun q : Nat => s.heap.size ≤ q) q := fun _ h => h
  obtain ⟨σ, τ⟩ := u
  obtain ⟨f, z, ⟨n, k, w0, κ, x, hV, hC⟩, hP, hD, hS⟩ := hW
  have hP : va_P D vwCl ((mW G mo ad σ τ ++ [(o, .inl (G 1, 1, .inr (.inl f)))]) ++ z) H := hP
  have hD : va_D (fun q => s.heap.size ≤ q) ((mW G mo ad σ τ ++ [(o, .inl (G 1, 1, .inr (.inl f)))]) ++ z) := hD
  have hV : IV σ x τ κ n k w0 := hV
  have hC : CW G ca σ x κ k z := hC
  refine lv_aload_n hx hb dL_law_547 rfl (lv_at hl 3 rfl) ?_
  refine lv_aload_n hx hb dL_law_548 rfl (lv_at hl 4 rfl) ?_
  refine lv_iload hx hb dL_law_549 (lv_at hl 0 rfl) ?_
  refine lv_iconst (v := 1) hx hb dL_law_551 (by decide) ?_
  refine lv_iadd hx hb dL_law_552 ?_
  refine sld_n hx hb hX hbl hbA hS hL ((7 * j) + 1) (n_add (a := (7 * j)) (b := 1) rfl (rfl : (1 : Int32) = nI 1)) (by omega) dL_law_553 ?_
  refine lv_aload_n hx hb dL_law_554 rfl (lv_at hl 4 rfl) ?_
  refine lv_iload hx hb dL_law_555 (lv_at hl 0 rfl) ?_
  refine lv_iconst (v := 2) hx hb dL_law_557 (by decide) ?_
  refine lv_iadd hx hb dL_law_558 ?_
  refine sld_n hx hb hX hbl hbA hS hL ((7 * j) + 2) (n_add (a := (7 * j)) (b := 2) rfl (rfl : (2 : Int32) = nI 2)) (by omega) dL_law_559 ?_
  refine lv_aload_n hx hb dL_law_560 rfl (lv_at hl 4 rfl) ?_
  refine lv_iload hx hb dL_law_561 (lv_at hl 0 rfl) ?_
  refine lv_iconst (v := 3) hx hb dL_law_563 (by decide) ?_
  refine lv_iadd hx hb dL_law_564 ?_
  refine sld_n hx hb hX hbl hbA hS hL ((7 * j) + 3) (n_add (a := (7 * j)) (b := 3) rfl (rfl : (3 : Int32) = nI 3)) (by omega) dL_law_565 ?_
  refine lv_if_eq (tgt := 573) hx hb dL_law_566 (by decide) (fun c1 => ?_) (fun c1 => ?_)
  · -- 566 taken
    refine lv_iconst (v := 0) hx hb dL_law_573 (by decide) ?_
    refine fr_Vc (wr := mW G mo ad σ τ ++ [(o, .inl (G 1, 1, .inr (.inl f)))]) (wc := z) (As := [.int (xs ((7 * j) + 1)), .int (xs ((7 * j) + 2)), .int 0]) (rest := []) ⟨hx, hb, hml, hown, hts⟩ (u_parameter l D G ca n k w0 σ x τ κ z _ hV hC (xs ((7 * j) + 1)) (xs ((7 * j) + 2)) 0 (Or.inl rfl)) gV_L_X7_parameter hdV_X7_parameter ⟨(Nat.le_of_ble_eq_true rfl), (Nat.le_of_ble_eq_true rfl)⟩ hK (hC.recv hK (fr_P hP)) hP hD hS hA rfl hl.1 rfl (Nat.le_of_ble_eq_true rfl) dL_law_574 ⟨(show cells + 0 ≤ 603072 by omega), (show slots + 0 ≤ 7262314 by omega)⟩ (fun z H locs hN hP hD hS => ?_)
    refine W.eq (g2 := F0 m 577 ls [.int ((oPar σ τ n k (xs ((7 * j) + 1)) (xs ((7 * j) + 2)) 0).1)]) rfl ?_
    refine lv_aload_n hx hb dL_law_577 rfl (lv_at hl 2 rfl) ?_
    refine lv_aload_n hx hb dL_law_578 rfl (lv_at hl 4 rfl) ?_
    refine lv_iload hx hb dL_law_579 (lv_at hl 0 rfl) ?_
    refine lv_iconst (v := 1) hx hb dL_law_581 (by decide) ?_
    refine lv_iadd hx hb dL_law_582 ?_
    refine sld_n hx hb hX hbl hbA hS hL ((7 * j) + 1) (n_add (a := (7 * j)) (b := 1) rfl (rfl : (1 : Int32) = nI 1)) (by omega) dL_law_583 ?_
    refine lv_aload_n hx hb dL_law_584 rfl (lv_at hl 4 rfl) ?_
    refine lv_iload hx hb dL_law_585 (lv_at hl 0 rfl) ?_
    refine lv_iconst (v := 2) hx hb dL_law_587 (by decide) ?_
    refine lv_iadd hx hb dL_law_588 ?_
    refine sld_n hx hb hX hbl hbA hS hL ((7 * j) + 2) (n_add (a := (7 * j)) (b := 2) rfl (rfl : (2 : Int32) = nI 2)) (by omega) dL_law_589 ?_
    refine lv_aload_n hx hb dL_law_590 rfl (lv_at hl 4 rfl) ?_
    refine lv_iload hx hb dL_law_591 (lv_at hl 0 rfl) ?_
    refine lv_iconst (v := 3) hx hb dL_law_593 (by decide) ?_
    refine lv_iadd hx hb dL_law_594 ?_
    refine sld_n hx hb hX hbl hbA hS hL ((7 * j) + 3) (n_add (a := (7 * j)) (b := 3) rfl (rfl : (3 : Int32) = nI 3)) (by omega) dL_law_595 ?_
    refine lv_if_eq (tgt := 603) hx hb dL_law_596 (by decide) (fun hh => ?_) (fun hh => absurd c1 hh)
    refine lv_iconst (v := 0) hx hb dL_law_603 (by decide) ?_
    have hP := P_perm hP pm_m
    have hD := D_perm pm_m hD
    have hP : va_P D vwCl (([(o, .inl (G 1, 1, .inr (.inl f)))] ++ z) ++ mW G mo ad σ τ) H := hP
    have hD : va_D (fun q => s.heap.size ≤ q) (([(o, .inl (G 1, 1, .inr (.inl f)))] ++ z) ++ mW G mo ad σ τ) := hD
    refine fr_Vm (wr := [(o, .inl (G 1, 1, .inr (.inl f)))] ++ z) (u := (σ, τ)) (v := (oPar σ τ n k (xs ((7 * j) + 1)) (xs ((7 * j) + 2)) 0).2) (mo := mo) (ad := ad) (As := [.int (xs ((7 * j) + 1)), .int (xs ((7 * j) + 2)), .int 0]) (rest := [.int ((oPar σ τ n k (xs ((7 * j) + 1)) (xs ((7 * j) + 2)) 0).1)]) ⟨hx, hb, hml, hown, hts⟩ (m_parameter l D G mo ad σ τ _ n hV.1.1.1 hV.1.1.2 k hV.1.2.1.1 hV.1.2.1.2 hV.h9 (hV.2.2.1.2.2.1 k).1 (xs ((7 * j) + 1)) (xs ((7 * j) + 2)) 0 (Or.inl rfl)) gV_L_X8_parameter hdV_X8_parameter ⟨(Nat.le_of_ble_eq_true rfl), (Nat.le_of_ble_eq_true rfl)⟩ hK hP hD hS hA rfl hl.1 rfl (Nat.le_of_ble_eq_true rfl) dL_law_604 ⟨(show cells + 0 ≤ 603072 by omega), (show slots + 0 ≤ 7262314 by omega)⟩ (fun H locs hP hD hS => ?_)
    have hP := P_perm hP pm_r
    have hD := D_perm pm_r hD
    have hP : va_P D vwCl ((mW G mo ad (oPar σ τ n k (xs ((7 * j) + 1)) (xs ((7 * j) + 2)) 0).2.1 (oPar σ τ n k (xs ((7 * j) + 1)) (xs ((7 * j) + 2)) 0).2.2 ++ [(o, .inl (G 1, 1, .inr (.inl f)))]) ++ z) H := hP
    have hD : va_D (fun q => s.heap.size ≤ q) ((mW G mo ad (oPar σ τ n k (xs ((7 * j) + 1)) (xs ((7 * j) + 2)) 0).2.1 (oPar σ τ n k (xs ((7 * j) + 1)) (xs ((7 * j) + 2)) 0).2.2 ++ [(o, .inl (G 1, 1, .inr (.inl f)))]) ++ z) := hD
    refine W.eq (g2 := F0 m 607 ls [.int ((oPar σ τ n k (xs ((7 * j) + 1)) (xs ((7 * j) + 2)) 0).1), .int ((oPar σ τ n k (xs ((7 * j) + 1)) (xs ((7 * j) + 2)) 0).1)]) rfl ?_
    refine lv_icmp_eq (tgt := 1019) hx hb dL_law_607 (by decide) (fun hh => ?_) (fun hh => absurd rfl hh)
    refine W.widen (k := cells + 4) (n := slots + 22) (by omega) (by omega) ?_
    exact kk (oPar σ τ n k (xs ((7 * j) + 1)) (xs ((7 * j) + 2)) 0).2 _ _ _ ⟨f, z, hN, hP, hD, hS⟩ (lv_sub hl [0, 1, 2, 3, 4] rfl)
  · -- 566 not
    refine lv_iconst (v := 1) hx hb dL_law_569 (by decide) ?_
    refine lv_goto (tgt := 574) hx hb dL_law_570 (by decide) ?_
    refine fr_Vc (wr := mW G mo ad σ τ ++ [(o, .inl (G 1, 1, .inr (.inl f)))]) (wc := z) (As := [.int (xs ((7 * j) + 1)), .int (xs ((7 * j) + 2)), .int 1]) (rest := []) ⟨hx, hb, hml, hown, hts⟩ (u_parameter l D G ca n k w0 σ x τ κ z _ hV hC (xs ((7 * j) + 1)) (xs ((7 * j) + 2)) 1 (Or.inr rfl)) gV_L_X7_parameter hdV_X7_parameter ⟨(Nat.le_of_ble_eq_true rfl), (Nat.le_of_ble_eq_true rfl)⟩ hK (hC.recv hK (fr_P hP)) hP hD hS hA rfl hl.1 rfl (Nat.le_of_ble_eq_true rfl) dL_law_574 ⟨(show cells + 0 ≤ 603072 by omega), (show slots + 0 ≤ 7262314 by omega)⟩ (fun z H locs hN hP hD hS => ?_)
    refine W.eq (g2 := F0 m 577 ls [.int ((oPar σ τ n k (xs ((7 * j) + 1)) (xs ((7 * j) + 2)) 1).1)]) rfl ?_
    refine lv_aload_n hx hb dL_law_577 rfl (lv_at hl 2 rfl) ?_
    refine lv_aload_n hx hb dL_law_578 rfl (lv_at hl 4 rfl) ?_
    refine lv_iload hx hb dL_law_579 (lv_at hl 0 rfl) ?_
    refine lv_iconst (v := 1) hx hb dL_law_581 (by decide) ?_
    refine lv_iadd hx hb dL_law_582 ?_
    refine sld_n hx hb hX hbl hbA hS hL ((7 * j) + 1) (n_add (a := (7 * j)) (b := 1) rfl (rfl : (1 : Int32) = nI 1)) (by omega) dL_law_583 ?_
    refine lv_aload_n hx hb dL_law_584 rfl (lv_at hl 4 rfl) ?_
    refine lv_iload hx hb dL_law_585 (lv_at hl 0 rfl) ?_
    refine lv_iconst (v := 2) hx hb dL_law_587 (by decide) ?_
    refine lv_iadd hx hb dL_law_588 ?_
    refine sld_n hx hb hX hbl hbA hS hL ((7 * j) + 2) (n_add (a := (7 * j)) (b := 2) rfl (rfl : (2 : Int32) = nI 2)) (by omega) dL_law_589 ?_
    refine lv_aload_n hx hb dL_law_590 rfl (lv_at hl 4 rfl) ?_
    refine lv_iload hx hb dL_law_591 (lv_at hl 0 rfl) ?_
    refine lv_iconst (v := 3) hx hb dL_law_593 (by decide) ?_
    refine lv_iadd hx hb dL_law_594 ?_
    refine sld_n hx hb hX hbl hbA hS hL ((7 * j) + 3) (n_add (a := (7 * j)) (b := 3) rfl (rfl : (3 : Int32) = nI 3)) (by omega) dL_law_595 ?_
    refine lv_if_eq (tgt := 603) hx hb dL_law_596 (by decide) (fun hh => absurd hh c1) (fun hh => ?_)
    refine lv_iconst (v := 1) hx hb dL_law_599 (by decide) ?_
    refine lv_goto (tgt := 604) hx hb dL_law_600 (by decide) ?_
    have hP := P_perm hP pm_m
    have hD := D_perm pm_m hD
    have hP : va_P D vwCl (([(o, .inl (G 1, 1, .inr (.inl f)))] ++ z) ++ mW G mo ad σ τ) H := hP
    have hD : va_D (fun q => s.heap.size ≤ q) (([(o, .inl (G 1, 1, .inr (.inl f)))] ++ z) ++ mW G mo ad σ τ) := hD
    refine fr_Vm (wr := [(o, .inl (G 1, 1, .inr (.inl f)))] ++ z) (u := (σ, τ)) (v := (oPar σ τ n k (xs ((7 * j) + 1)) (xs ((7 * j) + 2)) 1).2) (mo := mo) (ad := ad) (As := [.int (xs ((7 * j) + 1)), .int (xs ((7 * j) + 2)), .int 1]) (rest := [.int ((oPar σ τ n k (xs ((7 * j) + 1)) (xs ((7 * j) + 2)) 1).1)]) ⟨hx, hb, hml, hown, hts⟩ (m_parameter l D G mo ad σ τ _ n hV.1.1.1 hV.1.1.2 k hV.1.2.1.1 hV.1.2.1.2 hV.h9 (hV.2.2.1.2.2.1 k).1 (xs ((7 * j) + 1)) (xs ((7 * j) + 2)) 1 (Or.inr rfl)) gV_L_X8_parameter hdV_X8_parameter ⟨(Nat.le_of_ble_eq_true rfl), (Nat.le_of_ble_eq_true rfl)⟩ hK hP hD hS hA rfl hl.1 rfl (Nat.le_of_ble_eq_true rfl) dL_law_604 ⟨(show cells + 0 ≤ 603072 by omega), (show slots + 0 ≤ 7262314 by omega)⟩ (fun H locs hP hD hS => ?_)
    have hP := P_perm hP pm_r
    have hD := D_perm pm_r hD
    have hP : va_P D vwCl ((mW G mo ad (oPar σ τ n k (xs ((7 * j) + 1)) (xs ((7 * j) + 2)) 1).2.1 (oPar σ τ n k (xs ((7 * j) + 1)) (xs ((7 * j) + 2)) 1).2.2 ++ [(o, .inl (G 1, 1, .inr (.inl f)))]) ++ z) H := hP
    have hD : va_D (fun q => s.heap.size ≤ q) ((mW G mo ad (oPar σ τ n k (xs ((7 * j) + 1)) (xs ((7 * j) + 2)) 1).2.1 (oPar σ τ n k (xs ((7 * j) + 1)) (xs ((7 * j) + 2)) 1).2.2 ++ [(o, .inl (G 1, 1, .inr (.inl f)))]) ++ z) := hD
    refine W.eq (g2 := F0 m 607 ls [.int ((oPar σ τ n k (xs ((7 * j) + 1)) (xs ((7 * j) + 2)) 1).1), .int ((oPar σ τ n k (xs ((7 * j) + 1)) (xs ((7 * j) + 2)) 1).1)]) rfl ?_
    refine lv_icmp_eq (tgt := 1019) hx hb dL_law_607 (by decide) (fun hh => ?_) (fun hh => absurd rfl hh)
    refine W.widen (k := cells + 4) (n := slots + 22) (by omega) (by omega) ?_
    exact kk (oPar σ τ n k (xs ((7 * j) + 1)) (xs ((7 * j) + 2)) 1).2 _ _ _ ⟨f, z, hN, hP, hD, hS⟩ (lv_sub hl [0, 1, 2, 3, 4] rfl)
set_option maxHeartbeats 1600000 in
set_option maxRecDepth 100000 in
theorem lc_end {p : Program} {l : Launch} {e : Env} {s : State} {m : MethodId} {below : List Frame} {meth : Method} {c : Code} {b L : Nat} {xs : Nat → Int32} {D : va_G} {G : Nat → ClassId} {sa : Nat → Nat} {ca : Nat → Nat} {mo : Nat} {ad : Nat → Nat} {o : Nat} {Q : State → Prop} (C0 : LCx p l s m c b L xs D G sa) {j : Nat} (hj : 7 * j + 6 < L) {u : MU} {H : Heap} {locs : List Loc} {ls : Array Slot} {cells slots : Nat} (hW : LW s D G ca mo ad o u H locs) (hl : lv_has ls 8 [(4, .int (nI (7 * j))), (3, .ref o), (2, .ref mo), (1, .ref (ca 0)), (0, .ref b)]) (hc : cells + 4 ≤ 603072 ∧ slots + 22 ≤ 7262314)
    (kk : ∀ (u : MU) (H : Heap) (locs : List Loc) (ls : Array Slot), LW s D G ca mo ad o u H locs → lv_has ls 8 [(4, .int (nI (7 * j))), (3, .ref o), (2, .ref mo), (1, .ref (ca 0)), (0, .ref b)] → W p l e room_1 s m #[Value.ref b] below meth c H locs (cells + 4) (slots + 22) Q (F0 m 1019 ls [])) : W p l e room_1 s m #[Value.ref b] below meth c H locs cells slots Q (F0 m 612 ls []) := by
  obtain ⟨hx, hb, hml, hown, hts, hX, hbl, hK, hXS, hXZ, hst, hL⟩ := id C0
  have hbA : ¬ (fun q : Nat => s.heap.size ≤ q) b := Nat.not_le.mpr hbl
  have hA : ∀ q : Nat, s.heap.size ≤ q → (fun q : Nat => s.heap.size ≤ q) q := fun _ h => h
  obtain ⟨σ, τ⟩ := u
  obtain ⟨f, z, ⟨n, k, w0, κ, x, hV, hC⟩, hP, hD, hS⟩ := hW
  have hP : va_P D vwCl ((mW G mo ad σ τ ++ [(o, .inl (G 1, 1, .inr (.inl f)))]) ++ z) H := hP
  have hD : va_D (fun q => s.heap.size ≤ q) ((mW G mo ad σ τ ++ [(o, .inl (G 1, 1, .inr (.inl f)))]) ++ z) := hD
  have hV : IV σ x τ κ n k w0 := hV
  have hC : CW G ca σ x κ k z := hC
  refine lv_aload_n hx hb dL_law_612 rfl (lv_at hl 3 rfl) ?_
  refine fr_Vc (wr := mW G mo ad σ τ ++ [(o, .inl (G 1, 1, .inr (.inl f)))]) (wc := z) (As := []) (rest := []) ⟨hx, hb, hml, hown, hts⟩ (u_end l D G ca n k w0 σ x τ κ z _ hV hC ) gV_L_X7_end hdV_X7_end ⟨(Nat.le_of_ble_eq_true rfl), (Nat.le_of_ble_eq_true rfl)⟩ hK (hC.recv hK (fr_P hP)) hP hD hS hA rfl hl.1 rfl (Nat.le_of_ble_eq_true rfl) dL_law_613 ⟨(show cells + 0 ≤ 603072 by omega), (show slots + 0 ≤ 7262314 by omega)⟩ (fun z H locs hN hP hD hS => ?_)
  refine W.eq (g2 := F0 m 616 ls [.int ((oEnd σ τ k).1)]) rfl ?_
  refine lv_aload_n hx hb dL_law_616 rfl (lv_at hl 2 rfl) ?_
  have hP := P_perm hP pm_m
  have hD := D_perm pm_m hD
  have hP : va_P D vwCl (([(o, .inl (G 1, 1, .inr (.inl f)))] ++ z) ++ mW G mo ad σ τ) H := hP
  have hD : va_D (fun q => s.heap.size ≤ q) (([(o, .inl (G 1, 1, .inr (.inl f)))] ++ z) ++ mW G mo ad σ τ) := hD
  refine fr_Vm (wr := [(o, .inl (G 1, 1, .inr (.inl f)))] ++ z) (u := (σ, τ)) (v := (oEnd σ τ k).2) (mo := mo) (ad := ad) (As := []) (rest := [.int ((oEnd σ τ k).1)]) ⟨hx, hb, hml, hown, hts⟩ (m_end l D G mo ad σ τ _ k hV.1.2.1.1 hV.1.2.1.2 hV.h9 hV.hb hV.he hV.hm hV.hk hV.2.1.1  ) gV_L_X8_end hdV_X8_end ⟨(Nat.le_of_ble_eq_true rfl), (Nat.le_of_ble_eq_true rfl)⟩ hK hP hD hS hA rfl hl.1 rfl (Nat.le_of_ble_eq_true rfl) dL_law_617 ⟨(show cells + 0 ≤ 603072 by omega), (show slots + 0 ≤ 7262314 by omega)⟩ (fun H locs hP hD hS => ?_)
  have hP := P_perm hP pm_r
  have hD := D_perm pm_r hD
  have hP : va_P D vwCl ((mW G mo ad (oEnd σ τ k).2.1 (oEnd σ τ k).2.2 ++ [(o, .inl (G 1, 1, .inr (.inl f)))]) ++ z) H := hP
  have hD : va_D (fun q => s.heap.size ≤ q) ((mW G mo ad (oEnd σ τ k).2.1 (oEnd σ τ k).2.2 ++ [(o, .inl (G 1, 1, .inr (.inl f)))]) ++ z) := hD
  refine W.eq (g2 := F0 m 620 ls [.int ((oEnd σ τ k).1), .int ((oEnd σ τ k).1)]) rfl ?_
  refine lv_icmp_eq (tgt := 1019) hx hb dL_law_620 (by decide) (fun hh => ?_) (fun hh => absurd rfl hh)
  refine W.widen (k := cells + 4) (n := slots + 22) (by omega) (by omega) ?_
  exact kk (oEnd σ τ k).2 _ _ _ ⟨f, z, hN, hP, hD, hS⟩ (lv_sub hl [0, 1, 2, 3, 4] rfl)
set_option maxHeartbeats 1600000 in
set_option maxRecDepth 100000 in
theorem lc_entry {p : Program} {l : Launch} {e : Env} {s : State} {m : MethodId} {below : List Frame} {meth : Method} {c : Code} {b L : Nat} {xs : Nat → Int32} {D : va_G} {G : Nat → ClassId} {sa : Nat → Nat} {ca : Nat → Nat} {mo : Nat} {ad : Nat → Nat} {o : Nat} {Q : State → Prop} (C0 : LCx p l s m c b L xs D G sa) {j : Nat} (hj : 7 * j + 6 < L) {u : MU} {H : Heap} {locs : List Loc} {ls : Array Slot} {cells slots : Nat} (hW : LW s D G ca mo ad o u H locs) (hl : lv_has ls 8 [(4, .int (nI (7 * j))), (3, .ref o), (2, .ref mo), (1, .ref (ca 0)), (0, .ref b)]) (hc : cells + 4 ≤ 603072 ∧ slots + 22 ≤ 7262314)
    (kk : ∀ (u : MU) (H : Heap) (locs : List Loc) (ls : Array Slot), LW s D G ca mo ad o u H locs → lv_has ls 8 [(4, .int (nI (7 * j))), (3, .ref o), (2, .ref mo), (1, .ref (ca 0)), (0, .ref b)] → W p l e room_1 s m #[Value.ref b] below meth c H locs (cells + 4) (slots + 22) Q (F0 m 1019 ls [])) : W p l e room_1 s m #[Value.ref b] below meth c H locs cells slots Q (F0 m 625 ls []) := by
  obtain ⟨hx, hb, hml, hown, hts, hX, hbl, hK, hXS, hXZ, hst, hL⟩ := id C0
  have hbA : ¬ (fun q : Nat => s.heap.size ≤ q) b := Nat.not_le.mpr hbl
  have hA : ∀ q : Nat, s.heap.size ≤ q → (fun q : Nat => s.heap.size ≤ q) q := fun _ h => h
  obtain ⟨σ, τ⟩ := u
  obtain ⟨f, z, ⟨n, k, w0, κ, x, hV, hC⟩, hP, hD, hS⟩ := hW
  have hP : va_P D vwCl ((mW G mo ad σ τ ++ [(o, .inl (G 1, 1, .inr (.inl f)))]) ++ z) H := hP
  have hD : va_D (fun q => s.heap.size ≤ q) ((mW G mo ad σ τ ++ [(o, .inl (G 1, 1, .inr (.inl f)))]) ++ z) := hD
  have hV : IV σ x τ κ n k w0 := hV
  have hC : CW G ca σ x κ k z := hC
  refine lv_aload_n hx hb dL_law_625 rfl (lv_at hl 3 rfl) ?_
  refine lv_aload_n hx hb dL_law_626 rfl (lv_at hl 4 rfl) ?_
  refine lv_iload hx hb dL_law_627 (lv_at hl 0 rfl) ?_
  refine lv_iconst (v := 1) hx hb dL_law_629 (by decide) ?_
  refine lv_iadd hx hb dL_law_630 ?_
  refine sld_n hx hb hX hbl hbA hS hL ((7 * j) + 1) (n_add (a := (7 * j)) (b := 1) rfl (rfl : (1 : Int32) = nI 1)) (by omega) dL_law_631 ?_
  refine lv_aload_n hx hb dL_law_632 rfl (lv_at hl 4 rfl) ?_
  refine lv_iload hx hb dL_law_633 (lv_at hl 0 rfl) ?_
  refine lv_iconst (v := 2) hx hb dL_law_635 (by decide) ?_
  refine lv_iadd hx hb dL_law_636 ?_
  refine sld_n hx hb hX hbl hbA hS hL ((7 * j) + 2) (n_add (a := (7 * j)) (b := 2) rfl (rfl : (2 : Int32) = nI 2)) (by omega) dL_law_637 ?_
  refine fr_Vc (wr := mW G mo ad σ τ ++ [(o, .inl (G 1, 1, .inr (.inl f)))]) (wc := z) (As := [.int (xs ((7 * j) + 1)), .int (xs ((7 * j) + 2))]) (rest := []) ⟨hx, hb, hml, hown, hts⟩ (u_entry l D G ca n k w0 σ x τ κ z _ hV hC (xs ((7 * j) + 1)) (xs ((7 * j) + 2))) gV_L_X7_entry hdV_X7_entry ⟨(Nat.le_of_ble_eq_true rfl), (Nat.le_of_ble_eq_true rfl)⟩ hK (hC.recv hK (fr_P hP)) hP hD hS hA rfl hl.1 rfl (Nat.le_of_ble_eq_true rfl) dL_law_638 ⟨(show cells + 0 ≤ 603072 by omega), (show slots + 0 ≤ 7262314 by omega)⟩ (fun z H locs hN hP hD hS => ?_)
  refine W.eq (g2 := F0 m 641 ls [.int ((oEntry σ τ k (xs ((7 * j) + 1)) (xs ((7 * j) + 2))).1)]) rfl ?_
  refine lv_aload_n hx hb dL_law_641 rfl (lv_at hl 2 rfl) ?_
  refine lv_aload_n hx hb dL_law_642 rfl (lv_at hl 4 rfl) ?_
  refine lv_iload hx hb dL_law_643 (lv_at hl 0 rfl) ?_
  refine lv_iconst (v := 1) hx hb dL_law_645 (by decide) ?_
  refine lv_iadd hx hb dL_law_646 ?_
  refine sld_n hx hb hX hbl hbA hS hL ((7 * j) + 1) (n_add (a := (7 * j)) (b := 1) rfl (rfl : (1 : Int32) = nI 1)) (by omega) dL_law_647 ?_
  refine lv_aload_n hx hb dL_law_648 rfl (lv_at hl 4 rfl) ?_
  refine lv_iload hx hb dL_law_649 (lv_at hl 0 rfl) ?_
  refine lv_iconst (v := 2) hx hb dL_law_651 (by decide) ?_
  refine lv_iadd hx hb dL_law_652 ?_
  refine sld_n hx hb hX hbl hbA hS hL ((7 * j) + 2) (n_add (a := (7 * j)) (b := 2) rfl (rfl : (2 : Int32) = nI 2)) (by omega) dL_law_653 ?_
  have hP := P_perm hP pm_m
  have hD := D_perm pm_m hD
  have hP : va_P D vwCl (([(o, .inl (G 1, 1, .inr (.inl f)))] ++ z) ++ mW G mo ad σ τ) H := hP
  have hD : va_D (fun q => s.heap.size ≤ q) (([(o, .inl (G 1, 1, .inr (.inl f)))] ++ z) ++ mW G mo ad σ τ) := hD
  refine fr_Vm (wr := [(o, .inl (G 1, 1, .inr (.inl f)))] ++ z) (u := (σ, τ)) (v := (oEntry σ τ k (xs ((7 * j) + 1)) (xs ((7 * j) + 2))).2) (mo := mo) (ad := ad) (As := [.int (xs ((7 * j) + 1)), .int (xs ((7 * j) + 2))]) (rest := [.int ((oEntry σ τ k (xs ((7 * j) + 1)) (xs ((7 * j) + 2))).1)]) ⟨hx, hb, hml, hown, hts⟩ (m_entry l D G mo ad σ τ _ k hV.1.2.1.1 hV.1.2.1.2  (xs ((7 * j) + 1)) (xs ((7 * j) + 2)) ) gV_L_X8_entry hdV_X8_entry ⟨(Nat.le_of_ble_eq_true rfl), (Nat.le_of_ble_eq_true rfl)⟩ hK hP hD hS hA rfl hl.1 rfl (Nat.le_of_ble_eq_true rfl) dL_law_654 ⟨(show cells + 0 ≤ 603072 by omega), (show slots + 0 ≤ 7262314 by omega)⟩ (fun H locs hP hD hS => ?_)
  have hP := P_perm hP pm_r
  have hD := D_perm pm_r hD
  have hP : va_P D vwCl ((mW G mo ad (oEntry σ τ k (xs ((7 * j) + 1)) (xs ((7 * j) + 2))).2.1 (oEntry σ τ k (xs ((7 * j) + 1)) (xs ((7 * j) + 2))).2.2 ++ [(o, .inl (G 1, 1, .inr (.inl f)))]) ++ z) H := hP
  have hD : va_D (fun q => s.heap.size ≤ q) ((mW G mo ad (oEntry σ τ k (xs ((7 * j) + 1)) (xs ((7 * j) + 2))).2.1 (oEntry σ τ k (xs ((7 * j) + 1)) (xs ((7 * j) + 2))).2.2 ++ [(o, .inl (G 1, 1, .inr (.inl f)))]) ++ z) := hD
  refine W.eq (g2 := F0 m 657 ls [.int ((oEntry σ τ k (xs ((7 * j) + 1)) (xs ((7 * j) + 2))).1), .int ((oEntry σ τ k (xs ((7 * j) + 1)) (xs ((7 * j) + 2))).1)]) rfl ?_
  refine lv_icmp_eq (tgt := 1019) hx hb dL_law_657 (by decide) (fun hh => ?_) (fun hh => absurd rfl hh)
  refine W.widen (k := cells + 4) (n := slots + 22) (by omega) (by omega) ?_
  exact kk (oEntry σ τ k (xs ((7 * j) + 1)) (xs ((7 * j) + 2))).2 _ _ _ ⟨f, z, hN, hP, hD, hS⟩ (lv_sub hl [0, 1, 2, 3, 4] rfl)
