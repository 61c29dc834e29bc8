theorem kw_33 : (Jvm.Cond.initialized "EventSpansLaw") ∈ sp_wa := sp_in (i := 33) (by decide +kernel) (by decide +kernel)
theorem kw_48 : (Jvm.Cond.classLink "EventSpansLaw" (8 : Nat) "EventSpans") ∈ sp_wa := sp_in (i := 48) (by decide +kernel) (by decide +kernel)
theorem kw_49 : (Jvm.Cond.instantiable "EventSpans" (7 : Nat)) ∈ sp_wa := sp_in (i := 49) (by decide +kernel) (by decide +kernel)
theorem kw_50 : (Jvm.Cond.methodLink "EventSpansLaw" (51 : Nat) ({ cls := "EventSpans", name := "<init>", desc := "()V" } : Jvm.MethodName)) ∈ sp_wa := sp_in (i := 50) (by decide +kernel) (by decide +kernel)
theorem kw_51 : (Jvm.Cond.instanceMethod ({ cls := "EventSpans", name := "<init>", desc := "()V" } : Jvm.MethodName)) ∈ sp_wa := sp_in (i := 51) (by decide +kernel) (by decide +kernel)
theorem kw_52 : (Jvm.Cond.code ({ cls := "EventSpans", name := "<init>", desc := "()V" } : Jvm.MethodName) prog_1_method_1_code (1 : Nat) (Option.none : Option Jvm.ClassFile.FieldType)) ∈ sp_wa := sp_in (i := 52) (by decide +kernel) (by decide +kernel)
theorem kw_83 : (Jvm.Cond.methodLink "EventSpansLaw" (65 : Nat) ({ cls := "EventSpans", name := "heads", desc := "()I" } : Jvm.MethodName)) ∈ sp_wa := sp_in (i := 83) (by decide +kernel) (by decide +kernel)
theorem kw_84 : (Jvm.Cond.instanceMethod ({ cls := "EventSpans", name := "heads", desc := "()I" } : Jvm.MethodName)) ∈ sp_wa := sp_in (i := 84) (by decide +kernel) (by decide +kernel)
theorem kw_85 : (Jvm.Cond.selects "EventSpans" ({ cls := "EventSpans", name := "heads", desc := "()I" } : Jvm.MethodName) ({ cls := "EventSpans", name := "heads", desc := "()I" } : Jvm.MethodName)) ∈ sp_wa := sp_in (i := 85) (by decide +kernel) (by decide +kernel)
theorem kw_86 : (Jvm.Cond.code ({ cls := "EventSpans", name := "heads", desc := "()I" } : Jvm.MethodName) prog_1_method_3_code (5 : Nat) (Option.some Jvm.ClassFile.FieldType.int)) ∈ sp_wa := sp_in (i := 86) (by decide +kernel) (by decide +kernel)
theorem kw_91 : (Jvm.Cond.methodLink "EventSpansLaw" (98 : Nat) ({ cls := "EventSpans", name := "critical", desc := "()I" } : Jvm.MethodName)) ∈ sp_wa := sp_in (i := 91) (by decide +kernel) (by decide +kernel)
theorem kw_92 : (Jvm.Cond.instanceMethod ({ cls := "EventSpans", name := "critical", desc := "()I" } : Jvm.MethodName)) ∈ sp_wa := sp_in (i := 92) (by decide +kernel) (by decide +kernel)
theorem kw_93 : (Jvm.Cond.selects "EventSpans" ({ cls := "EventSpans", name := "critical", desc := "()I" } : Jvm.MethodName) ({ cls := "EventSpans", name := "critical", desc := "()I" } : Jvm.MethodName)) ∈ sp_wa := sp_in (i := 93) (by decide +kernel) (by decide +kernel)
theorem kw_94 : (Jvm.Cond.code ({ cls := "EventSpans", name := "critical", desc := "()I" } : Jvm.MethodName) prog_1_method_13_code (5 : Nat) (Option.some Jvm.ClassFile.FieldType.int)) ∈ sp_wa := sp_in (i := 94) (by decide +kernel) (by decide +kernel)
theorem kw_102 : (Jvm.Cond.methodLink "EventSpansLaw" (102 : Nat) ({ cls := "EventSpans", name := "base", desc := "(I)I" } : Jvm.MethodName)) ∈ sp_wa := sp_in (i := 102) (by decide +kernel) (by decide +kernel)
theorem kw_103 : (Jvm.Cond.instanceMethod ({ cls := "EventSpans", name := "base", desc := "(I)I" } : Jvm.MethodName)) ∈ sp_wa := sp_in (i := 103) (by decide +kernel) (by decide +kernel)
theorem kw_104 : (Jvm.Cond.selects "EventSpans" ({ cls := "EventSpans", name := "base", desc := "(I)I" } : Jvm.MethodName) ({ cls := "EventSpans", name := "base", desc := "(I)I" } : Jvm.MethodName)) ∈ sp_wa := sp_in (i := 104) (by decide +kernel) (by decide +kernel)
theorem kw_105 : (Jvm.Cond.code ({ cls := "EventSpans", name := "base", desc := "(I)I" } : Jvm.MethodName) prog_1_method_14_code (5 : Nat) (Option.some Jvm.ClassFile.FieldType.int)) ∈ sp_wa := sp_in (i := 105) (by decide +kernel) (by decide +kernel)
theorem kw_112 : (Jvm.Cond.methodLink "EventSpansLaw" (55 : Nat) ({ cls := "EventSpansLaw", name := "parent", desc := "(LEventSpans;II[J)I" } : Jvm.MethodName)) ∈ sp_wa := sp_in (i := 112) (by decide +kernel) (by decide +kernel)
theorem kw_113 : (Jvm.Cond.static ({ cls := "EventSpansLaw", name := "parent", desc := "(LEventSpans;II[J)I" } : Jvm.MethodName)) ∈ sp_wa := sp_in (i := 113) (by decide +kernel) (by decide +kernel)
theorem kw_114 : (Jvm.Cond.codeWith ({ cls := "EventSpansLaw", name := "parent", desc := "(LEventSpans;II[J)I" } : Jvm.MethodName) method_3_code (5 : Nat) (Option.some Jvm.ClassFile.FieldType.int) [((0 : Nat), (10 : Nat), (13 : Nat), (13 : Nat)), ((0 : Nat), (10 : Nat), (17 : Nat), (15 : Nat)), ((0 : Nat), (10 : Nat), (21 : Nat), (17 : Nat))]) ∈ sp_wa := sp_in (i := 114) (by decide +kernel) (by decide +kernel)
theorem kw_239 : (Jvm.Cond.methodLink "EventSpansLaw" (69 : Nat) ({ cls := "EventSpansLaw", name := "add", desc := "(LEventSpans;II[J)I" } : Jvm.MethodName)) ∈ sp_wa := sp_in (i := 239) (by decide +kernel) (by decide +kernel)
theorem kw_240 : (Jvm.Cond.static ({ cls := "EventSpansLaw", name := "add", desc := "(LEventSpans;II[J)I" } : Jvm.MethodName)) ∈ sp_wa := sp_in (i := 240) (by decide +kernel) (by decide +kernel)
theorem kw_241 : (Jvm.Cond.codeWith ({ cls := "EventSpansLaw", name := "add", desc := "(LEventSpans;II[J)I" } : Jvm.MethodName) method_4_code (5 : Nat) (Option.some Jvm.ClassFile.FieldType.int) [((0 : Nat), (10 : Nat), (13 : Nat), (22 : Nat)), ((0 : Nat), (10 : Nat), (17 : Nat), (15 : Nat)), ((0 : Nat), (10 : Nat), (21 : Nat), (17 : Nat))]) ∈ sp_wa := sp_in (i := 241) (by decide +kernel) (by decide +kernel)
theorem kw_389 : (Jvm.Cond.methodLink "EventSpansLaw" (72 : Nat) ({ cls := "EventSpansLaw", name := "events", desc := "(LEventSpans;I[J)I" } : Jvm.MethodName)) ∈ sp_wa := sp_in (i := 389) (by decide +kernel) (by decide +kernel)
theorem kw_390 : (Jvm.Cond.static ({ cls := "EventSpansLaw", name := "events", desc := "(LEventSpans;I[J)I" } : Jvm.MethodName)) ∈ sp_wa := sp_in (i := 390) (by decide +kernel) (by decide +kernel)
theorem kw_391 : (Jvm.Cond.codeWith ({ cls := "EventSpansLaw", name := "events", desc := "(LEventSpans;I[J)I" } : Jvm.MethodName) method_5_code (4 : Nat) (Option.some Jvm.ClassFile.FieldType.int) [((0 : Nat), (9 : Nat), (12 : Nat), (22 : Nat))]) ∈ sp_wa := sp_in (i := 391) (by decide +kernel) (by decide +kernel)
theorem kw_396 : (Jvm.Cond.methodLink "EventSpansLaw" (76 : Nat) ({ cls := "EventSpansLaw", name := "place", desc := "(LEventSpans;II[J)I" } : Jvm.MethodName)) ∈ sp_wa := sp_in (i := 396) (by decide +kernel) (by decide +kernel)
theorem kw_397 : (Jvm.Cond.static ({ cls := "EventSpansLaw", name := "place", desc := "(LEventSpans;II[J)I" } : Jvm.MethodName)) ∈ sp_wa := sp_in (i := 397) (by decide +kernel) (by decide +kernel)
theorem kw_398 : (Jvm.Cond.codeWith ({ cls := "EventSpansLaw", name := "place", desc := "(LEventSpans;II[J)I" } : Jvm.MethodName) method_6_code (5 : Nat) (Option.some Jvm.ClassFile.FieldType.int) [((0 : Nat), (10 : Nat), (13 : Nat), (13 : Nat))]) ∈ sp_wa := sp_in (i := 398) (by decide +kernel) (by decide +kernel)
theorem kw_403 : (Jvm.Cond.methodLink "EventSpansLaw" (79 : Nat) ({ cls := "EventSpansLaw", name := "id", desc := "(LEventSpans;I[J)I" } : Jvm.MethodName)) ∈ sp_wa := sp_in (i := 403) (by decide +kernel) (by decide +kernel)
theorem kw_404 : (Jvm.Cond.static ({ cls := "EventSpansLaw", name := "id", desc := "(LEventSpans;I[J)I" } : Jvm.MethodName)) ∈ sp_wa := sp_in (i := 404) (by decide +kernel) (by decide +kernel)
theorem kw_405 : (Jvm.Cond.codeWith ({ cls := "EventSpansLaw", name := "id", desc := "(LEventSpans;I[J)I" } : Jvm.MethodName) method_7_code (4 : Nat) (Option.some Jvm.ClassFile.FieldType.int) [((0 : Nat), (8 : Nat), (11 : Nat), (13 : Nat))]) ∈ sp_wa := sp_in (i := 405) (by decide +kernel) (by decide +kernel)
theorem kw_410 : (Jvm.Cond.methodLink "EventSpansLaw" (82 : Nat) ({ cls := "EventSpansLaw", name := "parentOf", desc := "(LEventSpans;II[J)I" } : Jvm.MethodName)) ∈ sp_wa := sp_in (i := 410) (by decide +kernel) (by decide +kernel)
theorem kw_411 : (Jvm.Cond.static ({ cls := "EventSpansLaw", name := "parentOf", desc := "(LEventSpans;II[J)I" } : Jvm.MethodName)) ∈ sp_wa := sp_in (i := 411) (by decide +kernel) (by decide +kernel)
theorem kw_412 : (Jvm.Cond.codeWith ({ cls := "EventSpansLaw", name := "parentOf", desc := "(LEventSpans;II[J)I" } : Jvm.MethodName) method_8_code (5 : Nat) (Option.some Jvm.ClassFile.FieldType.int) [((0 : Nat), (10 : Nat), (13 : Nat), (13 : Nat))]) ∈ sp_wa := sp_in (i := 412) (by decide +kernel) (by decide +kernel)
theorem kw_417 : (Jvm.Cond.methodLink "EventSpansLaw" (85 : Nat) ({ cls := "EventSpansLaw", name := "related", desc := "(LEventSpans;II[J)I" } : Jvm.MethodName)) ∈ sp_wa := sp_in (i := 417) (by decide +kernel) (by decide +kernel)
theorem kw_418 : (Jvm.Cond.static ({ cls := "EventSpansLaw", name := "related", desc := "(LEventSpans;II[J)I" } : Jvm.MethodName)) ∈ sp_wa := sp_in (i := 418) (by decide +kernel) (by decide +kernel)
theorem kw_419 : (Jvm.Cond.codeWith ({ cls := "EventSpansLaw", name := "related", desc := "(LEventSpans;II[J)I" } : Jvm.MethodName) method_9_code (5 : Nat) (Option.some Jvm.ClassFile.FieldType.int) [((0 : Nat), (10 : Nat), (13 : Nat), (13 : Nat))]) ∈ sp_wa := sp_in (i := 419) (by decide +kernel) (by decide +kernel)
theorem kw_424 : (Jvm.Cond.methodLink "EventSpansLaw" (88 : Nat) ({ cls := "EventSpansLaw", name := "apart", desc := "(LEventSpans;II[J)I" } : Jvm.MethodName)) ∈ sp_wa := sp_in (i := 424) (by decide +kernel) (by decide +kernel)
theorem kw_425 : (Jvm.Cond.static ({ cls := "EventSpansLaw", name := "apart", desc := "(LEventSpans;II[J)I" } : Jvm.MethodName)) ∈ sp_wa := sp_in (i := 425) (by decide +kernel) (by decide +kernel)
theorem kw_426 : (Jvm.Cond.codeWith ({ cls := "EventSpansLaw", name := "apart", desc := "(LEventSpans;II[J)I" } : Jvm.MethodName) method_10_code (5 : Nat) (Option.some Jvm.ClassFile.FieldType.int) [((0 : Nat), (10 : Nat), (13 : Nat), (13 : Nat))]) ∈ sp_wa := sp_in (i := 426) (by decide +kernel) (by decide +kernel)
theorem kw_431 : (Jvm.Cond.methodLink "EventSpansLaw" (91 : Nat) ({ cls := "EventSpansLaw", name := "latest", desc := "(LEventSpans;III[J)I" } : Jvm.MethodName)) ∈ sp_wa := sp_in (i := 431) (by decide +kernel) (by decide +kernel)
theorem kw_432 : (Jvm.Cond.static ({ cls := "EventSpansLaw", name := "latest", desc := "(LEventSpans;III[J)I" } : Jvm.MethodName)) ∈ sp_wa := sp_in (i := 432) (by decide +kernel) (by decide +kernel)
theorem kw_433 : (Jvm.Cond.codeWith ({ cls := "EventSpansLaw", name := "latest", desc := "(LEventSpans;III[J)I" } : Jvm.MethodName) method_11_code (6 : Nat) (Option.some Jvm.ClassFile.FieldType.int) [((0 : Nat), (12 : Nat), (15 : Nat), (13 : Nat))]) ∈ sp_wa := sp_in (i := 433) (by decide +kernel) (by decide +kernel)
theorem kw_438 : (Jvm.Cond.methodLink "EventSpansLaw" (95 : Nat) ({ cls := "EventSpansLaw", name := "head", desc := "(LEventSpans;I[J)I" } : Jvm.MethodName)) ∈ sp_wa := sp_in (i := 438) (by decide +kernel) (by decide +kernel)
theorem kw_439 : (Jvm.Cond.static ({ cls := "EventSpansLaw", name := "head", desc := "(LEventSpans;I[J)I" } : Jvm.MethodName)) ∈ sp_wa := sp_in (i := 439) (by decide +kernel) (by decide +kernel)
theorem kw_440 : (Jvm.Cond.codeWith ({ cls := "EventSpansLaw", name := "head", desc := "(LEventSpans;I[J)I" } : Jvm.MethodName) method_12_code (4 : Nat) (Option.some Jvm.ClassFile.FieldType.int) [((0 : Nat), (9 : Nat), (12 : Nat), (13 : Nat))]) ∈ sp_wa := sp_in (i := 440) (by decide +kernel) (by decide +kernel)
theorem kw_445 : (Jvm.Cond.classLink "EventSpansLaw" (52 : Nat) "EventSpansModel") ∈ sp_wa := sp_in (i := 445) (by decide +kernel) (by decide +kernel)
theorem kw_446 : (Jvm.Cond.instantiable "EventSpansModel" (14 : Nat)) ∈ sp_wa := sp_in (i := 446) (by decide +kernel) (by decide +kernel)
theorem kw_447 : (Jvm.Cond.methodLink "EventSpansLaw" (54 : Nat) ({ cls := "EventSpansModel", name := "<init>", desc := "()V" } : Jvm.MethodName)) ∈ sp_wa := sp_in (i := 447) (by decide +kernel) (by decide +kernel)
theorem kw_448 : (Jvm.Cond.instanceMethod ({ cls := "EventSpansModel", name := "<init>", desc := "()V" } : Jvm.MethodName)) ∈ sp_wa := sp_in (i := 448) (by decide +kernel) (by decide +kernel)
theorem kw_449 : (Jvm.Cond.code ({ cls := "EventSpansModel", name := "<init>", desc := "()V" } : Jvm.MethodName) prog_5_method_1_code (1 : Nat) (Option.none : Option Jvm.ClassFile.FieldType)) ∈ sp_wa := sp_in (i := 449) (by decide +kernel) (by decide +kernel)
theorem kw_498 : (Jvm.Cond.methodLink "EventSpansLaw" (61 : Nat) ({ cls := "EventSpansModel", name := "thrown", desc := "()I" } : Jvm.MethodName)) ∈ sp_wa := sp_in (i := 498) (by decide +kernel) (by decide +kernel)
theorem kw_499 : (Jvm.Cond.instanceMethod ({ cls := "EventSpansModel", name := "thrown", desc := "()I" } : Jvm.MethodName)) ∈ sp_wa := sp_in (i := 499) (by decide +kernel) (by decide +kernel)
theorem kw_500 : (Jvm.Cond.selects "EventSpansModel" ({ cls := "EventSpansModel", name := "thrown", desc := "()I" } : Jvm.MethodName) ({ cls := "EventSpansModel", name := "thrown", desc := "()I" } : Jvm.MethodName)) ∈ sp_wa := sp_in (i := 500) (by decide +kernel) (by decide +kernel)
theorem kw_501 : (Jvm.Cond.code ({ cls := "EventSpansModel", name := "thrown", desc := "()I" } : Jvm.MethodName) prog_5_method_24_code (1 : Nat) (Option.some Jvm.ClassFile.FieldType.int)) ∈ sp_wa := sp_in (i := 501) (by decide +kernel) (by decide +kernel)
theorem kw_502 : (Jvm.Cond.methodLink "EventSpansLaw" (60 : Nat) ({ cls := "EventSpansModel", name := "parent", desc := "(II)I" } : Jvm.MethodName)) ∈ sp_wa := sp_in (i := 502) (by decide +kernel) (by decide +kernel)
theorem kw_503 : (Jvm.Cond.instanceMethod ({ cls := "EventSpansModel", name := "parent", desc := "(II)I" } : Jvm.MethodName)) ∈ sp_wa := sp_in (i := 503) (by decide +kernel) (by decide +kernel)
theorem kw_504 : (Jvm.Cond.selects "EventSpansModel" ({ cls := "EventSpansModel", name := "parent", desc := "(II)I" } : Jvm.MethodName) ({ cls := "EventSpansModel", name := "parent", desc := "(II)I" } : Jvm.MethodName)) ∈ sp_wa := sp_in (i := 504) (by decide +kernel) (by decide +kernel)
theorem kw_505 : (Jvm.Cond.codeWith ({ cls := "EventSpansModel", name := "parent", desc := "(II)I" } : Jvm.MethodName) prog_5_method_25_code (4 : Nat) (Option.some Jvm.ClassFile.FieldType.int) [((5 : Nat), (11 : Nat), (12 : Nat), (44 : Nat)), ((5 : Nat), (11 : Nat), (21 : Nat), (69 : Nat)), ((5 : Nat), (11 : Nat), (30 : Nat), (72 : Nat))]) ∈ sp_wa := sp_in (i := 505) (by decide +kernel) (by decide +kernel)
theorem kw_527 : (Jvm.Cond.methodLink "EventSpansLaw" (68 : Nat) ({ cls := "EventSpansModel", name := "heads", desc := "()I" } : Jvm.MethodName)) ∈ sp_wa := sp_in (i := 527) (by decide +kernel) (by decide +kernel)
theorem kw_528 : (Jvm.Cond.instanceMethod ({ cls := "EventSpansModel", name := "heads", desc := "()I" } : Jvm.MethodName)) ∈ sp_wa := sp_in (i := 528) (by decide +kernel) (by decide +kernel)
theorem kw_529 : (Jvm.Cond.selects "EventSpansModel" ({ cls := "EventSpansModel", name := "heads", desc := "()I" } : Jvm.MethodName) ({ cls := "EventSpansModel", name := "heads", desc := "()I" } : Jvm.MethodName)) ∈ sp_wa := sp_in (i := 529) (by decide +kernel) (by decide +kernel)
theorem kw_530 : (Jvm.Cond.code ({ cls := "EventSpansModel", name := "heads", desc := "()I" } : Jvm.MethodName) prog_5_method_26_code (1 : Nat) (Option.some Jvm.ClassFile.FieldType.int)) ∈ sp_wa := sp_in (i := 530) (by decide +kernel) (by decide +kernel)
theorem kw_547 : (Jvm.Cond.methodLink "EventSpansLaw" (71 : Nat) ({ cls := "EventSpansModel", name := "add", desc := "(II)I" } : Jvm.MethodName)) ∈ sp_wa := sp_in (i := 547) (by decide +kernel) (by decide +kernel)
theorem kw_548 : (Jvm.Cond.instanceMethod ({ cls := "EventSpansModel", name := "add", desc := "(II)I" } : Jvm.MethodName)) ∈ sp_wa := sp_in (i := 548) (by decide +kernel) (by decide +kernel)
theorem kw_549 : (Jvm.Cond.selects "EventSpansModel" ({ cls := "EventSpansModel", name := "add", desc := "(II)I" } : Jvm.MethodName) ({ cls := "EventSpansModel", name := "add", desc := "(II)I" } : Jvm.MethodName)) ∈ sp_wa := sp_in (i := 549) (by decide +kernel) (by decide +kernel)
theorem kw_550 : (Jvm.Cond.codeWith ({ cls := "EventSpansModel", name := "add", desc := "(II)I" } : Jvm.MethodName) prog_5_method_27_code (4 : Nat) (Option.some Jvm.ClassFile.FieldType.int) [((5 : Nat), (11 : Nat), (12 : Nat), (87 : Nat)), ((5 : Nat), (11 : Nat), (21 : Nat), (69 : Nat)), ((5 : Nat), (11 : Nat), (30 : Nat), (72 : Nat))]) ∈ sp_wa := sp_in (i := 550) (by decide +kernel) (by decide +kernel)
theorem kw_562 : (Jvm.Cond.methodLink "EventSpansLaw" (75 : Nat) ({ cls := "EventSpansModel", name := "events", desc := "(I)I" } : Jvm.MethodName)) ∈ sp_wa := sp_in (i := 562) (by decide +kernel) (by decide +kernel)
theorem kw_563 : (Jvm.Cond.instanceMethod ({ cls := "EventSpansModel", name := "events", desc := "(I)I" } : Jvm.MethodName)) ∈ sp_wa := sp_in (i := 563) (by decide +kernel) (by decide +kernel)
theorem kw_564 : (Jvm.Cond.selects "EventSpansModel" ({ cls := "EventSpansModel", name := "events", desc := "(I)I" } : Jvm.MethodName) ({ cls := "EventSpansModel", name := "events", desc := "(I)I" } : Jvm.MethodName)) ∈ sp_wa := sp_in (i := 564) (by decide +kernel) (by decide +kernel)
theorem kw_565 : (Jvm.Cond.codeWith ({ cls := "EventSpansModel", name := "events", desc := "(I)I" } : Jvm.MethodName) prog_5_method_28_code (3 : Nat) (Option.some Jvm.ClassFile.FieldType.int) [((5 : Nat), (10 : Nat), (11 : Nat), (87 : Nat))]) ∈ sp_wa := sp_in (i := 565) (by decide +kernel) (by decide +kernel)
theorem kw_570 : (Jvm.Cond.methodLink "EventSpansLaw" (78 : Nat) ({ cls := "EventSpansModel", name := "place", desc := "(II)I" } : Jvm.MethodName)) ∈ sp_wa := sp_in (i := 570) (by decide +kernel) (by decide +kernel)
theorem kw_571 : (Jvm.Cond.instanceMethod ({ cls := "EventSpansModel", name := "place", desc := "(II)I" } : Jvm.MethodName)) ∈ sp_wa := sp_in (i := 571) (by decide +kernel) (by decide +kernel)
theorem kw_572 : (Jvm.Cond.selects "EventSpansModel" ({ cls := "EventSpansModel", name := "place", desc := "(II)I" } : Jvm.MethodName) ({ cls := "EventSpansModel", name := "place", desc := "(II)I" } : Jvm.MethodName)) ∈ sp_wa := sp_in (i := 572) (by decide +kernel) (by decide +kernel)
theorem kw_573 : (Jvm.Cond.codeWith ({ cls := "EventSpansModel", name := "place", desc := "(II)I" } : Jvm.MethodName) prog_5_method_29_code (4 : Nat) (Option.some Jvm.ClassFile.FieldType.int) [((5 : Nat), (11 : Nat), (12 : Nat), (44 : Nat))]) ∈ sp_wa := sp_in (i := 573) (by decide +kernel) (by decide +kernel)
theorem kw_578 : (Jvm.Cond.methodLink "EventSpansLaw" (81 : Nat) ({ cls := "EventSpansModel", name := "id", desc := "(I)J" } : Jvm.MethodName)) ∈ sp_wa := sp_in (i := 578) (by decide +kernel) (by decide +kernel)
theorem kw_579 : (Jvm.Cond.instanceMethod ({ cls := "EventSpansModel", name := "id", desc := "(I)J" } : Jvm.MethodName)) ∈ sp_wa := sp_in (i := 579) (by decide +kernel) (by decide +kernel)
theorem kw_580 : (Jvm.Cond.selects "EventSpansModel" ({ cls := "EventSpansModel", name := "id", desc := "(I)J" } : Jvm.MethodName) ({ cls := "EventSpansModel", name := "id", desc := "(I)J" } : Jvm.MethodName)) ∈ sp_wa := sp_in (i := 580) (by decide +kernel) (by decide +kernel)
theorem kw_581 : (Jvm.Cond.codeWith ({ cls := "EventSpansModel", name := "id", desc := "(I)J" } : Jvm.MethodName) prog_5_method_30_code (3 : Nat) (Option.some Jvm.ClassFile.FieldType.long) [((5 : Nat), (10 : Nat), (11 : Nat), (44 : Nat))]) ∈ sp_wa := sp_in (i := 581) (by decide +kernel) (by decide +kernel)
theorem kw_591 : (Jvm.Cond.methodLink "EventSpansLaw" (84 : Nat) ({ cls := "EventSpansModel", name := "parentOf", desc := "(II)I" } : Jvm.MethodName)) ∈ sp_wa := sp_in (i := 591) (by decide +kernel) (by decide +kernel)
theorem kw_592 : (Jvm.Cond.instanceMethod ({ cls := "EventSpansModel", name := "parentOf", desc := "(II)I" } : Jvm.MethodName)) ∈ sp_wa := sp_in (i := 592) (by decide +kernel) (by decide +kernel)
theorem kw_593 : (Jvm.Cond.selects "EventSpansModel" ({ cls := "EventSpansModel", name := "parentOf", desc := "(II)I" } : Jvm.MethodName) ({ cls := "EventSpansModel", name := "parentOf", desc := "(II)I" } : Jvm.MethodName)) ∈ sp_wa := sp_in (i := 593) (by decide +kernel) (by decide +kernel)
theorem kw_594 : (Jvm.Cond.codeWith ({ cls := "EventSpansModel", name := "parentOf", desc := "(II)I" } : Jvm.MethodName) prog_5_method_31_code (4 : Nat) (Option.some Jvm.ClassFile.FieldType.int) [((5 : Nat), (11 : Nat), (12 : Nat), (44 : Nat))]) ∈ sp_wa := sp_in (i := 594) (by decide +kernel) (by decide +kernel)
theorem kw_599 : (Jvm.Cond.methodLink "EventSpansLaw" (87 : Nat) ({ cls := "EventSpansModel", name := "related", desc := "(II)I" } : Jvm.MethodName)) ∈ sp_wa := sp_in (i := 599) (by decide +kernel) (by decide +kernel)
theorem kw_600 : (Jvm.Cond.instanceMethod ({ cls := "EventSpansModel", name := "related", desc := "(II)I" } : Jvm.MethodName)) ∈ sp_wa := sp_in (i := 600) (by decide +kernel) (by decide +kernel)
theorem kw_601 : (Jvm.Cond.selects "EventSpansModel" ({ cls := "EventSpansModel", name := "related", desc := "(II)I" } : Jvm.MethodName) ({ cls := "EventSpansModel", name := "related", desc := "(II)I" } : Jvm.MethodName)) ∈ sp_wa := sp_in (i := 601) (by decide +kernel) (by decide +kernel)
theorem kw_602 : (Jvm.Cond.codeWith ({ cls := "EventSpansModel", name := "related", desc := "(II)I" } : Jvm.MethodName) prog_5_method_32_code (4 : Nat) (Option.some Jvm.ClassFile.FieldType.int) [((5 : Nat), (11 : Nat), (12 : Nat), (44 : Nat))]) ∈ sp_wa := sp_in (i := 602) (by decide +kernel) (by decide +kernel)
theorem kw_607 : (Jvm.Cond.methodLink "EventSpansLaw" (90 : Nat) ({ cls := "EventSpansModel", name := "apart", desc := "(II)I" } : Jvm.MethodName)) ∈ sp_wa := sp_in (i := 607) (by decide +kernel) (by decide +kernel)
theorem kw_608 : (Jvm.Cond.instanceMethod ({ cls := "EventSpansModel", name := "apart", desc := "(II)I" } : Jvm.MethodName)) ∈ sp_wa := sp_in (i := 608) (by decide +kernel) (by decide +kernel)
theorem kw_609 : (Jvm.Cond.selects "EventSpansModel" ({ cls := "EventSpansModel", name := "apart", desc := "(II)I" } : Jvm.MethodName) ({ cls := "EventSpansModel", name := "apart", desc := "(II)I" } : Jvm.MethodName)) ∈ sp_wa := sp_in (i := 609) (by decide +kernel) (by decide +kernel)
theorem kw_610 : (Jvm.Cond.codeWith ({ cls := "EventSpansModel", name := "apart", desc := "(II)I" } : Jvm.MethodName) prog_5_method_33_code (4 : Nat) (Option.some Jvm.ClassFile.FieldType.int) [((5 : Nat), (11 : Nat), (12 : Nat), (44 : Nat))]) ∈ sp_wa := sp_in (i := 610) (by decide +kernel) (by decide +kernel)
theorem kw_615 : (Jvm.Cond.methodLink "EventSpansLaw" (94 : Nat) ({ cls := "EventSpansModel", name := "latest", desc := "(III)I" } : Jvm.MethodName)) ∈ sp_wa := sp_in (i := 615) (by decide +kernel) (by decide +kernel)
theorem kw_616 : (Jvm.Cond.instanceMethod ({ cls := "EventSpansModel", name := "latest", desc := "(III)I" } : Jvm.MethodName)) ∈ sp_wa := sp_in (i := 616) (by decide +kernel) (by decide +kernel)
theorem kw_617 : (Jvm.Cond.selects "EventSpansModel" ({ cls := "EventSpansModel", name := "latest", desc := "(III)I" } : Jvm.MethodName) ({ cls := "EventSpansModel", name := "latest", desc := "(III)I" } : Jvm.MethodName)) ∈ sp_wa := sp_in (i := 617) (by decide +kernel) (by decide +kernel)
theorem kw_618 : (Jvm.Cond.codeWith ({ cls := "EventSpansModel", name := "latest", desc := "(III)I" } : Jvm.MethodName) prog_5_method_34_code (5 : Nat) (Option.some Jvm.ClassFile.FieldType.int) [((5 : Nat), (12 : Nat), (13 : Nat), (44 : Nat))]) ∈ sp_wa := sp_in (i := 618) (by decide +kernel) (by decide +kernel)
theorem kw_624 : (Jvm.Cond.methodLink "EventSpansLaw" (97 : Nat) ({ cls := "EventSpansModel", name := "head", desc := "(I)I" } : Jvm.MethodName)) ∈ sp_wa := sp_in (i := 624) (by decide +kernel) (by decide +kernel)
theorem kw_625 : (Jvm.Cond.instanceMethod ({ cls := "EventSpansModel", name := "head", desc := "(I)I" } : Jvm.MethodName)) ∈ sp_wa := sp_in (i := 625) (by decide +kernel) (by decide +kernel)
theorem kw_626 : (Jvm.Cond.selects "EventSpansModel" ({ cls := "EventSpansModel", name := "head", desc := "(I)I" } : Jvm.MethodName) ({ cls := "EventSpansModel", name := "head", desc := "(I)I" } : Jvm.MethodName)) ∈ sp_wa := sp_in (i := 626) (by decide +kernel) (by decide +kernel)
theorem kw_627 : (Jvm.Cond.codeWith ({ cls := "EventSpansModel", name := "head", desc := "(I)I" } : Jvm.MethodName) prog_5_method_35_code (3 : Nat) (Option.some Jvm.ClassFile.FieldType.int) [((5 : Nat), (10 : Nat), (11 : Nat), (44 : Nat))]) ∈ sp_wa := sp_in (i := 627) (by decide +kernel) (by decide +kernel)
theorem kw_632 : (Jvm.Cond.methodLink "EventSpansLaw" (101 : Nat) ({ cls := "EventSpansModel", name := "critical", desc := "()I" } : Jvm.MethodName)) ∈ sp_wa := sp_in (i := 632) (by decide +kernel) (by decide +kernel)
theorem kw_633 : (Jvm.Cond.instanceMethod ({ cls := "EventSpansModel", name := "critical", desc := "()I" } : Jvm.MethodName)) ∈ sp_wa := sp_in (i := 633) (by decide +kernel) (by decide +kernel)
theorem kw_634 : (Jvm.Cond.selects "EventSpansModel" ({ cls := "EventSpansModel", name := "critical", desc := "()I" } : Jvm.MethodName) ({ cls := "EventSpansModel", name := "critical", desc := "()I" } : Jvm.MethodName)) ∈ sp_wa := sp_in (i := 634) (by decide +kernel) (by decide +kernel)
theorem kw_635 : (Jvm.Cond.code ({ cls := "EventSpansModel", name := "critical", desc := "()I" } : Jvm.MethodName) prog_5_method_36_code (1 : Nat) (Option.some Jvm.ClassFile.FieldType.int)) ∈ sp_wa := sp_in (i := 635) (by decide +kernel) (by decide +kernel)
theorem kw_644 : (Jvm.Cond.methodLink "EventSpansLaw" (105 : Nat) ({ cls := "EventSpansModel", name := "base", desc := "(I)I" } : Jvm.MethodName)) ∈ sp_wa := sp_in (i := 644) (by decide +kernel) (by decide +kernel)
theorem kw_645 : (Jvm.Cond.instanceMethod ({ cls := "EventSpansModel", name := "base", desc := "(I)I" } : Jvm.MethodName)) ∈ sp_wa := sp_in (i := 645) (by decide +kernel) (by decide +kernel)
theorem kw_646 : (Jvm.Cond.selects "EventSpansModel" ({ cls := "EventSpansModel", name := "base", desc := "(I)I" } : Jvm.MethodName) ({ cls := "EventSpansModel", name := "base", desc := "(I)I" } : Jvm.MethodName)) ∈ sp_wa := sp_in (i := 646) (by decide +kernel) (by decide +kernel)
theorem kw_647 : (Jvm.Cond.code ({ cls := "EventSpansModel", name := "base", desc := "(I)I" } : Jvm.MethodName) prog_5_method_37_code (2 : Nat) (Option.some Jvm.ClassFile.FieldType.int)) ∈ sp_wa := sp_in (i := 647) (by decide +kernel) (by decide +kernel)
theorem kw_652 : (Jvm.Cond.arrayClass Jvm.ClassFile.FieldType.long) ∈ sp_wa := sp_in (i := 652) (by decide +kernel) (by decide +kernel)
abbrev cxL_law (κ : sp_K) (x : sp_X) (mc ms : Nat) : Prop := sp_C κ x cL_law 8 RL (some .boolean) [] "law" (sp_rm 13 488 mc ms)
set_option maxRecDepth 100000 in
set_option maxHeartbeats 4000000 in
theorem bkL_law_0 {κ : sp_K} {x : sp_X} {mc ms : Nat} {Rt : Option Value → sp_M → Prop} {Xt : String → sp_M → Prop} {μ : sp_M} {k n : Nat} {a0 : Nat} {L : Nat} {xs : Nat → Int32} (h : cxL_law κ x mc ms) (hS0 : sp_S κ x a0 L xs) (hL0 : L < 2 ^ 31) (hk : k ≤ mc ∧ n ≤ ms)
    (vc : ((k + 1 ≤ mc ∧ n + 7 ≤ ms) ∧ ∀ q_1 : Nat, μ q_1 = none → ∀ μ_3 : sp_M, μ_3 = va_up μ q_1 (some (.inr (2, [.null, .int 0, .null, .int 0, .null, .null, .int 0]))) → (∃ mc_5 ms_6 : Nat, ((k + 1) + mc_5 ≤ mc ∧ (n + 7) + ms_6 ≤ ms) ∧ sp_m x.2.1 κ yE_init wE_init 1 22 mc_5 ms_6 [.ref q_1] μ_3 (fun v_8 μ_9 => v_8 = none ∧ (((k + 1 + mc_5) + 1 ≤ mc ∧ (n + 7 + ms_6) + 14 ≤ ms) ∧ ∀ q_11 : Nat, μ_9 q_11 = none → ∀ μ_13 : sp_M, μ_13 = va_up μ_9 q_11 (some (.inr (3, [.null, .null, .int 0, .null, .null, .null, .null, .null, .null, .int 0, .null, .int 0, .null, .int 0]))) → (∃ mc_15 ms_16 : Nat, ((k + 1 + mc_5 + 1) + mc_15 ≤ mc ∧ (n + 7 + ms_6 + 14) + ms_16 ≤ ms) ∧ sp_m x.2.1 κ yM_init wM_init 1 22 mc_15 ms_16 [.ref q_11] μ_13 (fun v_18 μ_19 => v_18 = none ∧ (∃ N_21 : Nat, 1 = nI N_21 ∧ N_21 ≤ 1000000 ∧ ((k + 1 + mc_5 + 1 + mc_15) + 1 ≤ mc ∧ (n + 7 + ms_6 + 14 + ms_16) + N_21 ≤ ms) ∧ ∀ q_25 : Nat, μ_19 q_25 = none → ∀ μ_27 : sp_M, μ_27 = va_up μ_19 q_25 (some (sp_la κ N_21 (fun _ => 0))) → sp_w κ x (sp_F κ x Rt Xt mc ms) (k + 1 + mc_5 + 1 + mc_15 + 1) (n + 7 + ms_6 + 14 + ms_16 + N_21) 23 [(0, .ref a0), (1, .ref q_1), (2, .ref q_11), (3, .ref q_25), (4, .int 0)] [] μ_27)) (fun E_28 μ_19 => False)))) (fun E_29 μ_9 => False)))) : sp_w κ x (sp_F κ x Rt Xt mc ms) k n 0 [(0, .ref a0)] [] μ := by
  obtain ⟨hc_4, vc⟩ := vc
  refine sr_new (ci := 2) (fs := [.null, .int 0, .null, .int 0, .null, .null, .int 0]) h inE tyE tyE_ok rfl kw_48 kw_49 kw_34 (fun j hj => by rcases (show j = 0 ∨ j = 1 ∨ j = 2 ∨ j = 3 ∨ j = 4 ∨ j = 5 ∨ j = 6 by omega) with rfl | rfl | rfl | rfl | rfl | rfl | rfl <;> rfl) dL_law_0 hc_4.1 hc_4.2 (fun q_1 hz_2 => ?_)
  replace vc := vc q_1 hz_2 _ rfl
  refine sr_dup h dL_law_3 (sp_c1r _) ?_
  obtain ⟨mc_5, ms_6, hc_7, vc⟩ := vc
  refine sr_callI (y := yE_init) (n0 := 0) (As := []) h (sp_gI kw_52) rfl rfl kw_34 kw_50 kw_51 (by decide +kernel) ⟨Nat.le_of_ble_eq_true rfl, Nat.le_of_ble_eq_true rfl⟩ dL_law_4 rfl rfl (Nat.le_of_ble_eq_true rfl) hc_7 vc (fun v_8 μ_9 vc' => ?_)
  replace vc := vc'
  clear vc'
  obtain ⟨rfl, vc⟩ := vc
  refine sr_astore_n (lv' := [(0, .ref a0), (1, .ref q_1)]) h dL_law_7 rfl (by decide) rfl ?_
  obtain ⟨hc_14, vc⟩ := vc
  refine sr_new (ci := 3) (fs := [.null, .null, .int 0, .null, .null, .null, .null, .null, .null, .int 0, .null, .int 0, .null, .int 0]) h inM tyM tyM_ok rfl kw_445 kw_446 kw_35 (fun j hj => by rcases (show j = 0 ∨ j = 1 ∨ j = 2 ∨ j = 3 ∨ j = 4 ∨ j = 5 ∨ j = 6 ∨ j = 7 ∨ j = 8 ∨ j = 9 ∨ j = 10 ∨ j = 11 ∨ j = 12 ∨ j = 13 by omega) with rfl | rfl | rfl | rfl | rfl | rfl | rfl | rfl | rfl | rfl | rfl | rfl | rfl | rfl <;> rfl) dL_law_8 hc_14.1 hc_14.2 (fun q_11 hz_12 => ?_)
  replace vc := vc q_11 hz_12 _ rfl
  refine sr_dup h dL_law_11 (sp_c1r _) ?_
  obtain ⟨mc_15, ms_16, hc_17, vc⟩ := vc
  refine sr_callI (y := yM_init) (n0 := 0) (As := []) h (sp_gI kw_449) rfl rfl kw_35 kw_447 kw_448 (by decide +kernel) ⟨Nat.le_of_ble_eq_true rfl, Nat.le_of_ble_eq_true rfl⟩ dL_law_12 rfl rfl (Nat.le_of_ble_eq_true rfl) hc_17 vc (fun v_18 μ_19 vc' => ?_)
  replace vc := vc'
  clear vc'
  obtain ⟨rfl, vc⟩ := vc
  refine sr_astore_n (lv' := [(0, .ref a0), (1, .ref q_1), (2, .ref q_11)]) h dL_law_15 rfl (by decide) rfl ?_
  refine sr_iconst (v := 1) h dL_law_16 (by decide) ?_
  obtain ⟨N_21, hi_22, hN_23, hc_24, vc⟩ := vc
  refine sr_newa (atype := .long) (ty := .long) (t := 2) (N := N_21) (y := (N_21, .inr (.inl fun _ => 0))) h rfl (fun _ z => nomatch z) kw_652 rfl dL_law_17 (fun _ => rfl) rfl hi_22 (by omega) (by show N_21 * 8 ≤ _; omega) hc_24.1 hc_24.2 (fun q_25 hz_26 => ?_)
  replace vc := vc q_25 hz_26 _ rfl
  refine sr_astore_n (lv' := [(0, .ref a0), (1, .ref q_1), (2, .ref q_11), (3, .ref q_25)]) h dL_law_19 rfl (by decide) rfl ?_
  refine sr_iconst (v := 0) h dL_law_20 (by decide) ?_
  refine sr_istore (lv' := [(0, .ref a0), (1, .ref q_1), (2, .ref q_11), (3, .ref q_25), (4, .int 0)]) h dL_law_21 (by decide) rfl ?_
  exact vc
set_option maxRecDepth 100000 in
set_option maxHeartbeats 4000000 in
theorem bkL_law_23 {κ : sp_K} {x : sp_X} {mc ms : Nat} {Rt : Option Value → sp_M → Prop} {Xt : String → sp_M → Prop} {μ : sp_M} {k n : Nat} {a0 : Nat} {a1 : Nat} {a2 : Nat} {a3 : Nat} {v4 : Int32} {L : Nat} {xs : Nat → Int32} (h : cxL_law κ x mc ms) (hS0 : sp_S κ x a0 L xs) (hL0 : L < 2 ^ 31) (hk : k ≤ mc ∧ n ≤ ms)
    (vc : ((((nI L) - 4) < v4 → Rt (some (.int 1)) μ) ∧ (¬ ((nI L) - 4) < v4 → (∃ j_1 : Nat, v4 = nI j_1 ∧ j_1 < L ∧ (((((xs j_1) &&& 15).toInt < 0 ∨ 12 < ((xs j_1) &&& 15).toInt) → sp_w κ x (sp_F κ x Rt Xt mc ms) k n 810 [(0, .ref a0), (1, .ref a1), (2, .ref a2), (3, .ref a3), (4, .int v4)] [] μ) ∧ (((xs j_1) &&& 15) = 0 → sp_w κ x (sp_F κ x Rt Xt mc ms) k n 104 [(0, .ref a0), (1, .ref a1), (2, .ref a2), (3, .ref a3), (4, .int v4)] [] μ) ∧ (((xs j_1) &&& 15) = 1 → sp_w κ x (sp_F κ x Rt Xt mc ms) k n 172 [(0, .ref a0), (1, .ref a1), (2, .ref a2), (3, .ref a3), (4, .int v4)] [] μ) ∧ (((xs j_1) &&& 15) = 2 → sp_w κ x (sp_F κ x Rt Xt mc ms) k n 185 [(0, .ref a0), (1, .ref a1), (2, .ref a2), (3, .ref a3), (4, .int v4)] [] μ) ∧ (((xs j_1) &&& 15) = 3 → sp_w κ x (sp_F κ x Rt Xt mc ms) k n 253 [(0, .ref a0), (1, .ref a1), (2, .ref a2), (3, .ref a3), (4, .int v4)] [] μ) ∧ (((xs j_1) &&& 15) = 4 → sp_w κ x (sp_F κ x Rt Xt mc ms) k n 309 [(0, .ref a0), (1, .ref a1), (2, .ref a2), (3, .ref a3), (4, .int v4)] [] μ) ∧ (((xs j_1) &&& 15) = 5 → sp_w κ x (sp_F κ x Rt Xt mc ms) k n 377 [(0, .ref a0), (1, .ref a1), (2, .ref a2), (3, .ref a3), (4, .int v4)] [] μ) ∧ (((xs j_1) &&& 15) = 6 → sp_w κ x (sp_F κ x Rt Xt mc ms) k n 432 [(0, .ref a0), (1, .ref a1), (2, .ref a2), (3, .ref a3), (4, .int v4)] [] μ) ∧ (((xs j_1) &&& 15) = 7 → sp_w κ x (sp_F κ x Rt Xt mc ms) k n 500 [(0, .ref a0), (1, .ref a1), (2, .ref a2), (3, .ref a3), (4, .int v4)] [] μ) ∧ (((xs j_1) &&& 15) = 8 → sp_w κ x (sp_F κ x Rt Xt mc ms) k n 568 [(0, .ref a0), (1, .ref a1), (2, .ref a2), (3, .ref a3), (4, .int v4)] [] μ) ∧ (((xs j_1) &&& 15) = 9 → sp_w κ x (sp_F κ x Rt Xt mc ms) k n 636 [(0, .ref a0), (1, .ref a1), (2, .ref a2), (3, .ref a3), (4, .int v4)] [] μ) ∧ (((xs j_1) &&& 15) = 10 → sp_w κ x (sp_F κ x Rt Xt mc ms) k n 716 [(0, .ref a0), (1, .ref a1), (2, .ref a2), (3, .ref a3), (4, .int v4)] [] μ) ∧ (((xs j_1) &&& 15) = 11 → sp_w κ x (sp_F κ x Rt Xt mc ms) k n 772 [(0, .ref a0), (1, .ref a1), (2, .ref a2), (3, .ref a3), (4, .int v4)] [] μ) ∧ (((xs j_1) &&& 15) = 12 → sp_w κ x (sp_F κ x Rt Xt mc ms) k n 785 [(0, .ref a0), (1, .ref a1), (2, .ref a2), (3, .ref a3), (4, .int v4)] [] μ)))))) : sp_w κ x (sp_F κ x Rt Xt mc ms) k n 23 [(0, .ref a0), (1, .ref a1), (2, .ref a2), (3, .ref a3), (4, .int v4)] [] μ := by
  refine sr_iload h dL_law_23 4 rfl ?_
  refine sr_aload_n h dL_law_25 rfl 0 rfl ?_
  refine sr_slen h hS0 dL_law_26 ?_
  refine sr_iconst (v := 4) h dL_law_27 (by decide) ?_
  refine sr_isub h dL_law_28 ?_
  refine sr_icmp_gt (tgt := 816) h dL_law_29 (by decide) (fun c_5 => ?_) (fun c_5 => ?_)
  · replace vc := vc.1 c_5
    refine sr_iconst (v := 1) h dL_law_816 (by decide) ?_
    exact sr_zret h dL_law_817 rfl hk.1 hk.2 vc
  · replace vc := vc.2 c_5
    refine sr_aload_n h dL_law_32 rfl 0 rfl ?_
    refine sr_iload h dL_law_33 4 rfl ?_
    obtain ⟨j_1, hi_2, hj_3, vc⟩ := vc
    refine sr_sld h hS0 hL0 dL_law_35 hi_2 hj_3 ?_
    refine sr_bipush (v := 15) h dL_law_36 (by decide) ?_
    refine sr_iand h dL_law_38 ?_
    by_cases c_4 : ((xs j_1) &&& 15).toInt < 0 ∨ 12 < ((xs j_1) &&& 15).toInt
    · replace vc := vc.1 c_4
      refine sr_tabOut (tgt := 810) h dL_law_39 c_4 (by decide) ?_
      exact vc
    · have hv9 := lw_sw13 c_4
      rcases hv9 with hq | hq | hq | hq | hq | hq | hq | hq | hq | hq | hq | hq | hq
      · replace vc := vc.2.1 hq
        refine sr_tabIn (off := 65) (tgt := 104) h dL_law_39 (by rw [hq]; decide) (by rw [hq]; decide) (by rw [hq]; decide) (by decide) ?_
        exact vc
      · replace vc := vc.2.2.1 hq
        refine sr_tabIn (off := 133) (tgt := 172) h dL_law_39 (by rw [hq]; decide) (by rw [hq]; decide) (by rw [hq]; decide) (by decide) ?_
        exact vc
      · replace vc := vc.2.2.2.1 hq
        refine sr_tabIn (off := 146) (tgt := 185) h dL_law_39 (by rw [hq]; decide) (by rw [hq]; decide) (by rw [hq]; decide) (by decide) ?_
        exact vc
      · replace vc := vc.2.2.2.2.1 hq
        refine sr_tabIn (off := 214) (tgt := 253) h dL_law_39 (by rw [hq]; decide) (by rw [hq]; decide) (by rw [hq]; decide) (by decide) ?_
        exact vc
      · replace vc := vc.2.2.2.2.2.1 hq
        refine sr_tabIn (off := 270) (tgt := 309) h dL_law_39 (by rw [hq]; decide) (by rw [hq]; decide) (by rw [hq]; decide) (by decide) ?_
        exact vc
      · replace vc := vc.2.2.2.2.2.2.1 hq
        refine sr_tabIn (off := 338) (tgt := 377) h dL_law_39 (by rw [hq]; decide) (by rw [hq]; decide) (by rw [hq]; decide) (by decide) ?_
        exact vc
      · replace vc := vc.2.2.2.2.2.2.2.1 hq
        refine sr_tabIn (off := 393) (tgt := 432) h dL_law_39 (by rw [hq]; decide) (by rw [hq]; decide) (by rw [hq]; decide) (by decide) ?_
        exact vc
      · replace vc := vc.2.2.2.2.2.2.2.2.1 hq
        refine sr_tabIn (off := 461) (tgt := 500) h dL_law_39 (by rw [hq]; decide) (by rw [hq]; decide) (by rw [hq]; decide) (by decide) ?_
        exact vc
      · replace vc := vc.2.2.2.2.2.2.2.2.2.1 hq
        refine sr_tabIn (off := 529) (tgt := 568) h dL_law_39 (by rw [hq]; decide) (by rw [hq]; decide) (by rw [hq]; decide) (by decide) ?_
        exact vc
      · replace vc := vc.2.2.2.2.2.2.2.2.2.2.1 hq
        refine sr_tabIn (off := 597) (tgt := 636) h dL_law_39 (by rw [hq]; decide) (by rw [hq]; decide) (by rw [hq]; decide) (by decide) ?_
        exact vc
      · replace vc := vc.2.2.2.2.2.2.2.2.2.2.2.1 hq
        refine sr_tabIn (off := 677) (tgt := 716) h dL_law_39 (by rw [hq]; decide) (by rw [hq]; decide) (by rw [hq]; decide) (by decide) ?_
        exact vc
      · replace vc := vc.2.2.2.2.2.2.2.2.2.2.2.2.1 hq
        refine sr_tabIn (off := 733) (tgt := 772) h dL_law_39 (by rw [hq]; decide) (by rw [hq]; decide) (by rw [hq]; decide) (by decide) ?_
        exact vc
      · replace vc := vc.2.2.2.2.2.2.2.2.2.2.2.2.2 hq
        refine sr_tabIn (off := 746) (tgt := 785) h dL_law_39 (by rw [hq]; decide) (by rw [hq]; decide) (by rw [hq]; decide) (by decide) ?_
        exact vc
set_option maxRecDepth 100000 in
set_option maxHeartbeats 4000000 in
theorem bkL_law_104 {κ : sp_K} {x : sp_X} {mc ms : Nat} {Rt : Option Value → sp_M → Prop} {Xt : String → sp_M → Prop} {μ : sp_M} {k n : Nat} {a0 : Nat} {a1 : Nat} {a2 : Nat} {a3 : Nat} {v4 : Int32} {L : Nat} {xs : Nat → Int32} (h : cxL_law κ x mc ms) (hS0 : sp_S κ x a0 L xs) (hL0 : L < 2 ^ 31) (hk : k ≤ mc ∧ n ≤ ms)
    (vc : (∃ j_1 : Nat, v4 + 1 = nI j_1 ∧ j_1 < L ∧ (∃ j_4 : Nat, v4 + 2 = nI j_4 ∧ j_4 < L ∧ (∃ mc_7 ms_8 : Nat, (k + mc_7 ≤ mc ∧ n + ms_8 ≤ ms) ∧ sp_m x.2.1 κ yL_parent wL_parent 8 136 mc_7 ms_8 [.ref a1, .int (xs j_1), .int (xs j_4), .ref a3] μ (fun v_10 μ_11 => ∃ v_13 : Int32, v_10 = some (.int v_13) ∧ (∃ j_14 : Nat, v4 + 1 = nI j_14 ∧ j_14 < L ∧ (∃ j_17 : Nat, v4 + 2 = nI j_17 ∧ j_17 < L ∧ (∃ mc_20 ms_21 : Nat, ((k + mc_7) + mc_20 ≤ mc ∧ (n + ms_8) + ms_21 ≤ ms) ∧ ∃ fs_25 : List Value, μ_11 a2 = some (.inr (3, fs_25)) ∧ sp_m x.2.1 κ yM_parent wM_parent 8 134 mc_20 ms_21 [.ref a2, .int (xs j_14), .int (xs j_17)] μ_11 (fun v_23 μ_24 => ∃ v_28 : Int32, v_23 = some (.int v_28) ∧ (∃ mc_29 ms_30 : Nat, ((k + mc_7 + mc_20) + mc_29 ≤ mc ∧ (n + ms_8 + ms_21) + ms_30 ≤ ms) ∧ ∃ fs_34 : List Value, μ_24 a2 = some (.inr (3, fs_34)) ∧ sp_m x.2.1 κ yM_thrown wM_thrown 0 0 mc_29 ms_30 [.ref a2] μ_24 (fun v_32 μ_33 => ∃ v_37 : Int32, v_32 = some (.int v_37) ∧ ((v_37 = v_13 → ((¬ v_13 = 0 → sp_w κ x (sp_F κ x Rt Xt mc ms) (k + mc_7 + mc_20 + mc_29) (n + ms_8 + ms_21 + ms_30) 810 [(0, .ref a0), (1, .ref a1), (2, .ref a2), (3, .ref a3), (4, .int v4)] [] μ_33) ∧ (v_13 = 0 → (∃ (N_38 : Nat) (f_39 : Nat → Int64), μ_33 a3 = some (sp_la κ N_38 f_39) ∧ ∃ j_41 : Nat, 0 = nI j_41 ∧ j_41 < N_38 ∧ (((lg_cmp (f_39 j_41) (Int32.toInt64 v_28)) = 0 → sp_w κ x (sp_F κ x Rt Xt mc ms) (k + mc_7 + mc_20 + mc_29) (n + ms_8 + ms_21 + ms_30) 810 [(0, .ref a0), (1, .ref a1), (2, .ref a2), (3, .ref a3), (4, .int v4)] [] μ_33) ∧ (¬ (lg_cmp (f_39 j_41) (Int32.toInt64 v_28)) = 0 → Rt (some (.int 0)) μ_33)))))) ∧ (¬ v_37 = v_13 → Rt (some (.int 0)) μ_33))) (fun E_47 μ_33 => Xt E_47 μ_33))) (fun E_48 μ_24 => Xt E_48 μ_24))))) (fun E_49 μ_11 => Xt E_49 μ_11))))) : sp_w κ x (sp_F κ x Rt Xt mc ms) k n 104 [(0, .ref a0), (1, .ref a1), (2, .ref a2), (3, .ref a3), (4, .int v4)] [] μ := by
  refine sr_aload_n h dL_law_104 rfl 1 rfl ?_
  refine sr_aload_n h dL_law_105 rfl 0 rfl ?_
  refine sr_iload h dL_law_106 4 rfl ?_
  refine sr_iconst (v := 1) h dL_law_108 (by decide) ?_
  refine sr_iadd h dL_law_109 ?_
  obtain ⟨j_1, hi_2, hj_3, vc⟩ := vc
  refine sr_sld h hS0 hL0 dL_law_110 hi_2 hj_3 ?_
  refine sr_aload_n h dL_law_111 rfl 0 rfl ?_
  refine sr_iload h dL_law_112 4 rfl ?_
  refine sr_iconst (v := 2) h dL_law_114 (by decide) ?_
  refine sr_iadd h dL_law_115 ?_
  obtain ⟨j_4, hi_5, hj_6, vc⟩ := vc
  refine sr_sld h hS0 hL0 dL_law_116 hi_5 hj_6 ?_
  refine sr_aload_n h dL_law_117 rfl 3 rfl ?_
  obtain ⟨mc_7, ms_8, hc_9, vc⟩ := vc
  refine sr_callSH (y := yL_parent) (n0 := 4) (As := [.ref a1, .int (xs j_1), .int (xs j_4), .ref a3]) (st := []) h (sp_gS kw_112 kw_113 kw_33 kw_114) rfl (by decide +kernel) ⟨Nat.le_of_ble_eq_true rfl, Nat.le_of_ble_eq_true rfl⟩ dL_law_118 rfl rfl (Nat.le_of_ble_eq_true rfl) hc_9 vc (fun v_10 μ_11 vc' => ?_) (fun E_49 μ_11 vc' => ?_)
  · replace vc := vc'
    clear vc'
    obtain ⟨v_13, rfl, vc⟩ := vc
    refine sr_istore (lv' := [(0, .ref a0), (1, .ref a1), (2, .ref a2), (3, .ref a3), (4, .int v4), (5, .int v_13)]) h dL_law_121 (by decide) rfl ?_
    refine sr_aload_n h dL_law_123 rfl 2 rfl ?_
    refine sr_aload_n h dL_law_124 rfl 0 rfl ?_
    refine sr_iload h dL_law_125 4 rfl ?_
    refine sr_iconst (v := 1) h dL_law_127 (by decide) ?_
    refine sr_iadd h dL_law_128 ?_
    obtain ⟨j_14, hi_15, hj_16, vc⟩ := vc
    refine sr_sld h hS0 hL0 dL_law_129 hi_15 hj_16 ?_
    refine sr_aload_n h dL_law_130 rfl 0 rfl ?_
    refine sr_iload h dL_law_131 4 rfl ?_
    refine sr_iconst (v := 2) h dL_law_133 (by decide) ?_
    refine sr_iadd h dL_law_134 ?_
    obtain ⟨j_17, hi_18, hj_19, vc⟩ := vc
    refine sr_sld h hS0 hL0 dL_law_135 hi_18 hj_19 ?_
    obtain ⟨mc_20, ms_21, hc_22, vc⟩ := vc
    obtain ⟨fs_25, ho_26, vc⟩ := vc
    refine sr_callVH (y := yM_parent) (n0 := 2) (As := [.int (xs j_14), .int (xs j_17)]) h (sp_gV kw_502 kw_503 kw_504 kw_35 kw_505) rfl (by decide +kernel) ⟨Nat.le_of_ble_eq_true rfl, Nat.le_of_ble_eq_true rfl⟩ (ci := 3) rfl dL_law_136 rfl rfl (Nat.le_of_ble_eq_true rfl) hc_22 ho_26 vc (fun v_23 μ_24 vc' => ?_) (fun E_48 μ_24 vc' => ?_)
    · replace vc := vc'
      clear vc'
      obtain ⟨v_28, rfl, vc⟩ := vc
      refine sr_istore (lv' := [(0, .ref a0), (1, .ref a1), (2, .ref a2), (3, .ref a3), (4, .int v4), (5, .int v_13), (6, .int v_28)]) h dL_law_139 (by decide) rfl ?_
      refine sr_aload_n h dL_law_141 rfl 2 rfl ?_
      obtain ⟨mc_29, ms_30, hc_31, vc⟩ := vc
      obtain ⟨fs_34, ho_35, vc⟩ := vc
      refine sr_callV (y := yM_thrown) (n0 := 0) (As := []) h (sp_gV kw_498 kw_499 kw_500 kw_35 kw_501) rfl (by decide +kernel) ⟨Nat.le_of_ble_eq_true rfl, Nat.le_of_ble_eq_true rfl⟩ (ci := 3) rfl dL_law_142 rfl rfl (Nat.le_of_ble_eq_true rfl) hc_31 ho_35 vc (fun v_32 μ_33 vc' => ?_) (fun E_47 μ_33 vc' => ?_)
      · replace vc := vc'
        clear vc'
        obtain ⟨v_37, rfl, vc⟩ := vc
        refine sr_iload h dL_law_145 5 rfl ?_
        refine sr_icmp_eq (tgt := 152) h dL_law_147 (by decide) (fun c_46 => ?_) (fun c_46 => ?_)
        · replace vc := vc.1 c_46
          refine sr_iload h dL_law_152 5 rfl ?_
          refine sr_if_ne (tgt := 169) h dL_law_154 (by decide) (fun c_45 => ?_) (fun c_45 => ?_)
          · replace vc := vc.1 c_45
            refine sr_goto (tgt := 810) h dL_law_169 (by decide) ?_
            exact sr_sub (lv' := [(0, .ref a0), (1, .ref a1), (2, .ref a2), (3, .ref a3), (4, .int v4)]) [0, 1, 2, 3, 4] rfl vc
          · replace vc := vc.2 c_45
            refine sr_aload_n h dL_law_157 rfl 3 rfl ?_
            refine sr_iconst (v := 0) h dL_law_158 (by decide) ?_
            obtain ⟨N_38, f_39, ho_40, vc⟩ := vc
            obtain ⟨j_41, hi_42, hj_43, vc⟩ := vc
            refine sr_lald h dL_law_159 ho_40 hi_42 hj_43 ?_
            refine sr_iload h dL_law_160 6 rfl ?_
            refine sr_i2l h dL_law_162 ?_
            refine sr_lcmp h dL_law_163 ?_
            refine sr_if_eq (tgt := 169) h dL_law_164 (by decide) (fun c_44 => ?_) (fun c_44 => ?_)
            · replace vc := vc.1 c_44
              refine sr_goto (tgt := 810) h dL_law_169 (by decide) ?_
              exact sr_sub (lv' := [(0, .ref a0), (1, .ref a1), (2, .ref a2), (3, .ref a3), (4, .int v4)]) [0, 1, 2, 3, 4] rfl vc
            · replace vc := vc.2 c_44
              refine sr_iconst (v := 0) h dL_law_167 (by decide) ?_
              exact sr_zret h dL_law_168 rfl hc_31.1 hc_31.2 vc
        · replace vc := vc.2 c_46
          refine sr_iconst (v := 0) h dL_law_150 (by decide) ?_
          exact sr_zret h dL_law_151 rfl hc_31.1 hc_31.2 vc
      · replace vc := vc'
        clear vc'
        exact st_out h (fun _ z => nomatch z) hc_31.1 hc_31.2 vc
    · replace vc := vc'
      clear vc'
      exact st_out h (fun _ z => nomatch z) hc_22.1 hc_22.2 vc
  · replace vc := vc'
    clear vc'
    exact st_out h (fun _ z => nomatch z) hc_9.1 hc_9.2 vc
set_option maxRecDepth 100000 in
set_option maxHeartbeats 4000000 in
theorem bkL_law_172 {κ : sp_K} {x : sp_X} {mc ms : Nat} {Rt : Option Value → sp_M → Prop} {Xt : String → sp_M → Prop} {μ : sp_M} {k n : Nat} {a0 : Nat} {a1 : Nat} {a2 : Nat} {a3 : Nat} {v4 : Int32} {L : Nat} {xs : Nat → Int32} (h : cxL_law κ x mc ms) (hS0 : sp_S κ x a0 L xs) (hL0 : L < 2 ^ 31) (hk : k ≤ mc ∧ n ≤ ms)
    (vc : (∃ mc_1 ms_2 : Nat, (k + mc_1 ≤ mc ∧ n + ms_2 ≤ ms) ∧ ∃ fs_6 : List Value, μ a1 = some (.inr (2, fs_6)) ∧ sp_m x.2.1 κ yE_heads wE_heads 1 22 mc_1 ms_2 [.ref a1] μ (fun v_4 μ_5 => ∃ v_9 : Int32, v_4 = some (.int v_9) ∧ (∃ mc_10 ms_11 : Nat, ((k + mc_1) + mc_10 ≤ mc ∧ (n + ms_2) + ms_11 ≤ ms) ∧ ∃ fs_15 : List Value, μ_5 a2 = some (.inr (3, fs_15)) ∧ sp_m x.2.1 κ yM_heads wM_heads 4 90 mc_10 ms_11 [.ref a2] μ_5 (fun v_13 μ_14 => ∃ v_18 : Int32, v_13 = some (.int v_18) ∧ ((v_9 = v_18 → sp_w κ x (sp_F κ x Rt Xt mc ms) (k + mc_1 + mc_10) (n + ms_2 + ms_11) 810 [(0, .ref a0), (1, .ref a1), (2, .ref a2), (3, .ref a3), (4, .int v4)] [] μ_14) ∧ (¬ v_9 = v_18 → Rt (some (.int 0)) μ_14))) (fun E_20 μ_14 => Xt E_20 μ_14))) (fun E_21 μ_5 => Xt E_21 μ_5))) : sp_w κ x (sp_F κ x Rt Xt mc ms) k n 172 [(0, .ref a0), (1, .ref a1), (2, .ref a2), (3, .ref a3), (4, .int v4)] [] μ := by
  refine sr_aload_n h dL_law_172 rfl 1 rfl ?_
  obtain ⟨mc_1, ms_2, hc_3, vc⟩ := vc
  obtain ⟨fs_6, ho_7, vc⟩ := vc
  refine sr_callV (y := yE_heads) (n0 := 0) (As := []) h (sp_gV kw_83 kw_84 kw_85 kw_34 kw_86) rfl (by decide +kernel) ⟨Nat.le_of_ble_eq_true rfl, Nat.le_of_ble_eq_true rfl⟩ (ci := 2) rfl dL_law_173 rfl rfl (Nat.le_of_ble_eq_true rfl) hc_3 ho_7 vc (fun v_4 μ_5 vc' => ?_) (fun E_21 μ_5 vc' => ?_)
  · replace vc := vc'
    clear vc'
    obtain ⟨v_9, rfl, vc⟩ := vc
    refine sr_aload_n h dL_law_176 rfl 2 rfl ?_
    obtain ⟨mc_10, ms_11, hc_12, vc⟩ := vc
    obtain ⟨fs_15, ho_16, vc⟩ := vc
    refine sr_callV (y := yM_heads) (n0 := 0) (As := []) h (sp_gV kw_527 kw_528 kw_529 kw_35 kw_530) rfl (by decide +kernel) ⟨Nat.le_of_ble_eq_true rfl, Nat.le_of_ble_eq_true rfl⟩ (ci := 3) rfl dL_law_177 rfl rfl (Nat.le_of_ble_eq_true rfl) hc_12 ho_16 vc (fun v_13 μ_14 vc' => ?_) (fun E_20 μ_14 vc' => ?_)
    · replace vc := vc'
      clear vc'
      obtain ⟨v_18, rfl, vc⟩ := vc
      refine sr_icmp_eq (tgt := 810) h dL_law_180 (by decide) (fun c_19 => ?_) (fun c_19 => ?_)
      · replace vc := vc.1 c_19
        exact vc
      · replace vc := vc.2 c_19
        refine sr_iconst (v := 0) h dL_law_183 (by decide) ?_
        exact sr_zret h dL_law_184 rfl hc_12.1 hc_12.2 vc
    · replace vc := vc'
      clear vc'
      exact st_out h (fun _ z => nomatch z) hc_12.1 hc_12.2 vc
  · replace vc := vc'
    clear vc'
    exact st_out h (fun _ z => nomatch z) hc_3.1 hc_3.2 vc
set_option maxRecDepth 100000 in
set_option maxHeartbeats 4000000 in
theorem bkL_law_185 {κ : sp_K} {x : sp_X} {mc ms : Nat} {Rt : Option Value → sp_M → Prop} {Xt : String → sp_M → Prop} {μ : sp_M} {k n : Nat} {a0 : Nat} {a1 : Nat} {a2 : Nat} {a3 : Nat} {v4 : Int32} {L : Nat} {xs : Nat → Int32} (h : cxL_law κ x mc ms) (hS0 : sp_S κ x a0 L xs) (hL0 : L < 2 ^ 31) (hk : k ≤ mc ∧ n ≤ ms)
    (vc : (∃ j_1 : Nat, v4 + 1 = nI j_1 ∧ j_1 < L ∧ (∃ j_4 : Nat, v4 + 2 = nI j_4 ∧ j_4 < L ∧ (∃ mc_7 ms_8 : Nat, (k + mc_7 ≤ mc ∧ n + ms_8 ≤ ms) ∧ sp_m x.2.1 κ yL_add wL_add 10 189 mc_7 ms_8 [.ref a1, .int (xs j_1), .int (xs j_4), .ref a3] μ (fun v_10 μ_11 => ∃ v_13 : Int32, v_10 = some (.int v_13) ∧ (∃ j_14 : Nat, v4 + 1 = nI j_14 ∧ j_14 < L ∧ (∃ j_17 : Nat, v4 + 2 = nI j_17 ∧ j_17 < L ∧ (∃ mc_20 ms_21 : Nat, ((k + mc_7) + mc_20 ≤ mc ∧ (n + ms_8) + ms_21 ≤ ms) ∧ ∃ fs_25 : List Value, μ_11 a2 = some (.inr (3, fs_25)) ∧ sp_m x.2.1 κ yM_add wM_add 7 116 mc_20 ms_21 [.ref a2, .int (xs j_14), .int (xs j_17)] μ_11 (fun v_23 μ_24 => ∃ v_28 : Int32, v_23 = some (.int v_28) ∧ (∃ mc_29 ms_30 : Nat, ((k + mc_7 + mc_20) + mc_29 ≤ mc ∧ (n + ms_8 + ms_21) + ms_30 ≤ ms) ∧ ∃ fs_34 : List Value, μ_24 a2 = some (.inr (3, fs_34)) ∧ sp_m x.2.1 κ yM_thrown wM_thrown 0 0 mc_29 ms_30 [.ref a2] μ_24 (fun v_32 μ_33 => ∃ v_37 : Int32, v_32 = some (.int v_37) ∧ ((v_37 = v_13 → ((¬ v_13 = 0 → sp_w κ x (sp_F κ x Rt Xt mc ms) (k + mc_7 + mc_20 + mc_29) (n + ms_8 + ms_21 + ms_30) 810 [(0, .ref a0), (1, .ref a1), (2, .ref a2), (3, .ref a3), (4, .int v4)] [] μ_33) ∧ (v_13 = 0 → (∃ (N_38 : Nat) (f_39 : Nat → Int64), μ_33 a3 = some (sp_la κ N_38 f_39) ∧ ∃ j_41 : Nat, 0 = nI j_41 ∧ j_41 < N_38 ∧ (((lg_cmp (f_39 j_41) (Int32.toInt64 v_28)) = 0 → sp_w κ x (sp_F κ x Rt Xt mc ms) (k + mc_7 + mc_20 + mc_29) (n + ms_8 + ms_21 + ms_30) 810 [(0, .ref a0), (1, .ref a1), (2, .ref a2), (3, .ref a3), (4, .int v4)] [] μ_33) ∧ (¬ (lg_cmp (f_39 j_41) (Int32.toInt64 v_28)) = 0 → Rt (some (.int 0)) μ_33)))))) ∧ (¬ v_37 = v_13 → Rt (some (.int 0)) μ_33))) (fun E_47 μ_33 => Xt E_47 μ_33))) (fun E_48 μ_24 => Xt E_48 μ_24))))) (fun E_49 μ_11 => Xt E_49 μ_11))))) : sp_w κ x (sp_F κ x Rt Xt mc ms) k n 185 [(0, .ref a0), (1, .ref a1), (2, .ref a2), (3, .ref a3), (4, .int v4)] [] μ := by
  refine sr_aload_n h dL_law_185 rfl 1 rfl ?_
  refine sr_aload_n h dL_law_186 rfl 0 rfl ?_
  refine sr_iload h dL_law_187 4 rfl ?_
  refine sr_iconst (v := 1) h dL_law_189 (by decide) ?_
  refine sr_iadd h dL_law_190 ?_
  obtain ⟨j_1, hi_2, hj_3, vc⟩ := vc
  refine sr_sld h hS0 hL0 dL_law_191 hi_2 hj_3 ?_
  refine sr_aload_n h dL_law_192 rfl 0 rfl ?_
  refine sr_iload h dL_law_193 4 rfl ?_
  refine sr_iconst (v := 2) h dL_law_195 (by decide) ?_
  refine sr_iadd h dL_law_196 ?_
  obtain ⟨j_4, hi_5, hj_6, vc⟩ := vc
  refine sr_sld h hS0 hL0 dL_law_197 hi_5 hj_6 ?_
  refine sr_aload_n h dL_law_198 rfl 3 rfl ?_
  obtain ⟨mc_7, ms_8, hc_9, vc⟩ := vc
  refine sr_callSH (y := yL_add) (n0 := 4) (As := [.ref a1, .int (xs j_1), .int (xs j_4), .ref a3]) (st := []) h (sp_gS kw_239 kw_240 kw_33 kw_241) rfl (by decide +kernel) ⟨Nat.le_of_ble_eq_true rfl, Nat.le_of_ble_eq_true rfl⟩ dL_law_199 rfl rfl (Nat.le_of_ble_eq_true rfl) hc_9 vc (fun v_10 μ_11 vc' => ?_) (fun E_49 μ_11 vc' => ?_)
  · replace vc := vc'
    clear vc'
    obtain ⟨v_13, rfl, vc⟩ := vc
    refine sr_istore (lv' := [(0, .ref a0), (1, .ref a1), (2, .ref a2), (3, .ref a3), (4, .int v4), (5, .int v_13)]) h dL_law_202 (by decide) rfl ?_
    refine sr_aload_n h dL_law_204 rfl 2 rfl ?_
    refine sr_aload_n h dL_law_205 rfl 0 rfl ?_
    refine sr_iload h dL_law_206 4 rfl ?_
    refine sr_iconst (v := 1) h dL_law_208 (by decide) ?_
    refine sr_iadd h dL_law_209 ?_
    obtain ⟨j_14, hi_15, hj_16, vc⟩ := vc
    refine sr_sld h hS0 hL0 dL_law_210 hi_15 hj_16 ?_
    refine sr_aload_n h dL_law_211 rfl 0 rfl ?_
    refine sr_iload h dL_law_212 4 rfl ?_
    refine sr_iconst (v := 2) h dL_law_214 (by decide) ?_
    refine sr_iadd h dL_law_215 ?_
    obtain ⟨j_17, hi_18, hj_19, vc⟩ := vc
    refine sr_sld h hS0 hL0 dL_law_216 hi_18 hj_19 ?_
    obtain ⟨mc_20, ms_21, hc_22, vc⟩ := vc
    obtain ⟨fs_25, ho_26, vc⟩ := vc
    refine sr_callVH (y := yM_add) (n0 := 2) (As := [.int (xs j_14), .int (xs j_17)]) h (sp_gV kw_547 kw_548 kw_549 kw_35 kw_550) rfl (by decide +kernel) ⟨Nat.le_of_ble_eq_true rfl, Nat.le_of_ble_eq_true rfl⟩ (ci := 3) rfl dL_law_217 rfl rfl (Nat.le_of_ble_eq_true rfl) hc_22 ho_26 vc (fun v_23 μ_24 vc' => ?_) (fun E_48 μ_24 vc' => ?_)
    · replace vc := vc'
      clear vc'
      obtain ⟨v_28, rfl, vc⟩ := vc
      refine sr_istore (lv' := [(0, .ref a0), (1, .ref a1), (2, .ref a2), (3, .ref a3), (4, .int v4), (5, .int v_13), (6, .int v_28)]) h dL_law_220 (by decide) rfl ?_
      refine sr_aload_n h dL_law_222 rfl 2 rfl ?_
      obtain ⟨mc_29, ms_30, hc_31, vc⟩ := vc
      obtain ⟨fs_34, ho_35, vc⟩ := vc
      refine sr_callV (y := yM_thrown) (n0 := 0) (As := []) h (sp_gV kw_498 kw_499 kw_500 kw_35 kw_501) rfl (by decide +kernel) ⟨Nat.le_of_ble_eq_true rfl, Nat.le_of_ble_eq_true rfl⟩ (ci := 3) rfl dL_law_223 rfl rfl (Nat.le_of_ble_eq_true rfl) hc_31 ho_35 vc (fun v_32 μ_33 vc' => ?_) (fun E_47 μ_33 vc' => ?_)
      · replace vc := vc'
        clear vc'
        obtain ⟨v_37, rfl, vc⟩ := vc
        refine sr_iload h dL_law_226 5 rfl ?_
        refine sr_icmp_eq (tgt := 233) h dL_law_228 (by decide) (fun c_46 => ?_) (fun c_46 => ?_)
        · replace vc := vc.1 c_46
          refine sr_iload h dL_law_233 5 rfl ?_
          refine sr_if_ne (tgt := 250) h dL_law_235 (by decide) (fun c_45 => ?_) (fun c_45 => ?_)
          · replace vc := vc.1 c_45
            refine sr_goto (tgt := 810) h dL_law_250 (by decide) ?_
            exact sr_sub (lv' := [(0, .ref a0), (1, .ref a1), (2, .ref a2), (3, .ref a3), (4, .int v4)]) [0, 1, 2, 3, 4] rfl vc
          · replace vc := vc.2 c_45
            refine sr_aload_n h dL_law_238 rfl 3 rfl ?_
            refine sr_iconst (v := 0) h dL_law_239 (by decide) ?_
            obtain ⟨N_38, f_39, ho_40, vc⟩ := vc
            obtain ⟨j_41, hi_42, hj_43, vc⟩ := vc
            refine sr_lald h dL_law_240 ho_40 hi_42 hj_43 ?_
            refine sr_iload h dL_law_241 6 rfl ?_
            refine sr_i2l h dL_law_243 ?_
            refine sr_lcmp h dL_law_244 ?_
            refine sr_if_eq (tgt := 250) h dL_law_245 (by decide) (fun c_44 => ?_) (fun c_44 => ?_)
            · replace vc := vc.1 c_44
              refine sr_goto (tgt := 810) h dL_law_250 (by decide) ?_
              exact sr_sub (lv' := [(0, .ref a0), (1, .ref a1), (2, .ref a2), (3, .ref a3), (4, .int v4)]) [0, 1, 2, 3, 4] rfl vc
            · replace vc := vc.2 c_44
              refine sr_iconst (v := 0) h dL_law_248 (by decide) ?_
              exact sr_zret h dL_law_249 rfl hc_31.1 hc_31.2 vc
        · replace vc := vc.2 c_46
          refine sr_iconst (v := 0) h dL_law_231 (by decide) ?_
          exact sr_zret h dL_law_232 rfl hc_31.1 hc_31.2 vc
      · replace vc := vc'
        clear vc'
        exact st_out h (fun _ z => nomatch z) hc_31.1 hc_31.2 vc
    · replace vc := vc'
      clear vc'
      exact st_out h (fun _ z => nomatch z) hc_22.1 hc_22.2 vc
  · replace vc := vc'
    clear vc'
    exact st_out h (fun _ z => nomatch z) hc_9.1 hc_9.2 vc
set_option maxRecDepth 100000 in
set_option maxHeartbeats 4000000 in
theorem bkL_law_253 {κ : sp_K} {x : sp_X} {mc ms : Nat} {Rt : Option Value → sp_M → Prop} {Xt : String → sp_M → Prop} {μ : sp_M} {k n : Nat} {a0 : Nat} {a1 : Nat} {a2 : Nat} {a3 : Nat} {v4 : Int32} {L : Nat} {xs : Nat → Int32} (h : cxL_law κ x mc ms) (hS0 : sp_S κ x a0 L xs) (hL0 : L < 2 ^ 31) (hk : k ≤ mc ∧ n ≤ ms)
    (vc : (∃ j_1 : Nat, v4 + 1 = nI j_1 ∧ j_1 < L ∧ (∃ mc_4 ms_5 : Nat, (k + mc_4 ≤ mc ∧ n + ms_5 ≤ ms) ∧ sp_m x.2.1 κ yL_events wL_events 7 111 mc_4 ms_5 [.ref a1, .int (xs j_1), .ref a3] μ (fun v_7 μ_8 => ∃ v_10 : Int32, v_7 = some (.int v_10) ∧ (∃ j_11 : Nat, v4 + 1 = nI j_11 ∧ j_11 < L ∧ (∃ mc_14 ms_15 : Nat, ((k + mc_4) + mc_14 ≤ mc ∧ (n + ms_5) + ms_15 ≤ ms) ∧ ∃ fs_19 : List Value, μ_8 a2 = some (.inr (3, fs_19)) ∧ sp_m x.2.1 κ yM_events wM_events 7 112 mc_14 ms_15 [.ref a2, .int (xs j_11)] μ_8 (fun v_17 μ_18 => ∃ v_22 : Int32, v_17 = some (.int v_22) ∧ (∃ mc_23 ms_24 : Nat, ((k + mc_4 + mc_14) + mc_23 ≤ mc ∧ (n + ms_5 + ms_15) + ms_24 ≤ ms) ∧ ∃ fs_28 : List Value, μ_18 a2 = some (.inr (3, fs_28)) ∧ sp_m x.2.1 κ yM_thrown wM_thrown 0 0 mc_23 ms_24 [.ref a2] μ_18 (fun v_26 μ_27 => ∃ v_31 : Int32, v_26 = some (.int v_31) ∧ ((v_31 = v_10 → ((¬ v_10 = 0 → sp_w κ x (sp_F κ x Rt Xt mc ms) (k + mc_4 + mc_14 + mc_23) (n + ms_5 + ms_15 + ms_24) 810 [(0, .ref a0), (1, .ref a1), (2, .ref a2), (3, .ref a3), (4, .int v4)] [] μ_27) ∧ (v_10 = 0 → (∃ (N_32 : Nat) (f_33 : Nat → Int64), μ_27 a3 = some (sp_la κ N_32 f_33) ∧ ∃ j_35 : Nat, 0 = nI j_35 ∧ j_35 < N_32 ∧ (((lg_cmp (f_33 j_35) (Int32.toInt64 v_22)) = 0 → sp_w κ x (sp_F κ x Rt Xt mc ms) (k + mc_4 + mc_14 + mc_23) (n + ms_5 + ms_15 + ms_24) 810 [(0, .ref a0), (1, .ref a1), (2, .ref a2), (3, .ref a3), (4, .int v4)] [] μ_27) ∧ (¬ (lg_cmp (f_33 j_35) (Int32.toInt64 v_22)) = 0 → Rt (some (.int 0)) μ_27)))))) ∧ (¬ v_31 = v_10 → Rt (some (.int 0)) μ_27))) (fun E_41 μ_27 => Xt E_41 μ_27))) (fun E_42 μ_18 => Xt E_42 μ_18)))) (fun E_43 μ_8 => Xt E_43 μ_8)))) : sp_w κ x (sp_F κ x Rt Xt mc ms) k n 253 [(0, .ref a0), (1, .ref a1), (2, .ref a2), (3, .ref a3), (4, .int v4)] [] μ := by
  refine sr_aload_n h dL_law_253 rfl 1 rfl ?_
  refine sr_aload_n h dL_law_254 rfl 0 rfl ?_
  refine sr_iload h dL_law_255 4 rfl ?_
  refine sr_iconst (v := 1) h dL_law_257 (by decide) ?_
  refine sr_iadd h dL_law_258 ?_
  obtain ⟨j_1, hi_2, hj_3, vc⟩ := vc
  refine sr_sld h hS0 hL0 dL_law_259 hi_2 hj_3 ?_
  refine sr_aload_n h dL_law_260 rfl 3 rfl ?_
  obtain ⟨mc_4, ms_5, hc_6, vc⟩ := vc
  refine sr_callSH (y := yL_events) (n0 := 3) (As := [.ref a1, .int (xs j_1), .ref a3]) (st := []) h (sp_gS kw_389 kw_390 kw_33 kw_391) rfl (by decide +kernel) ⟨Nat.le_of_ble_eq_true rfl, Nat.le_of_ble_eq_true rfl⟩ dL_law_261 rfl rfl (Nat.le_of_ble_eq_true rfl) hc_6 vc (fun v_7 μ_8 vc' => ?_) (fun E_43 μ_8 vc' => ?_)
  · replace vc := vc'
    clear vc'
    obtain ⟨v_10, rfl, vc⟩ := vc
    refine sr_istore (lv' := [(0, .ref a0), (1, .ref a1), (2, .ref a2), (3, .ref a3), (4, .int v4), (5, .int v_10)]) h dL_law_264 (by decide) rfl ?_
    refine sr_aload_n h dL_law_266 rfl 2 rfl ?_
    refine sr_aload_n h dL_law_267 rfl 0 rfl ?_
    refine sr_iload h dL_law_268 4 rfl ?_
    refine sr_iconst (v := 1) h dL_law_270 (by decide) ?_
    refine sr_iadd h dL_law_271 ?_
    obtain ⟨j_11, hi_12, hj_13, vc⟩ := vc
    refine sr_sld h hS0 hL0 dL_law_272 hi_12 hj_13 ?_
    obtain ⟨mc_14, ms_15, hc_16, vc⟩ := vc
    obtain ⟨fs_19, ho_20, vc⟩ := vc
    refine sr_callVH (y := yM_events) (n0 := 1) (As := [.int (xs j_11)]) h (sp_gV kw_562 kw_563 kw_564 kw_35 kw_565) rfl (by decide +kernel) ⟨Nat.le_of_ble_eq_true rfl, Nat.le_of_ble_eq_true rfl⟩ (ci := 3) rfl dL_law_273 rfl rfl (Nat.le_of_ble_eq_true rfl) hc_16 ho_20 vc (fun v_17 μ_18 vc' => ?_) (fun E_42 μ_18 vc' => ?_)
    · replace vc := vc'
      clear vc'
      obtain ⟨v_22, rfl, vc⟩ := vc
      refine sr_istore (lv' := [(0, .ref a0), (1, .ref a1), (2, .ref a2), (3, .ref a3), (4, .int v4), (5, .int v_10), (6, .int v_22)]) h dL_law_276 (by decide) rfl ?_
      refine sr_aload_n h dL_law_278 rfl 2 rfl ?_
      obtain ⟨mc_23, ms_24, hc_25, vc⟩ := vc
      obtain ⟨fs_28, ho_29, vc⟩ := vc
      refine sr_callV (y := yM_thrown) (n0 := 0) (As := []) h (sp_gV kw_498 kw_499 kw_500 kw_35 kw_501) rfl (by decide +kernel) ⟨Nat.le_of_ble_eq_true rfl, Nat.le_of_ble_eq_true rfl⟩ (ci := 3) rfl dL_law_279 rfl rfl (Nat.le_of_ble_eq_true rfl) hc_25 ho_29 vc (fun v_26 μ_27 vc' => ?_) (fun E_41 μ_27 vc' => ?_)
      · replace vc := vc'
        clear vc'
        obtain ⟨v_31, rfl, vc⟩ := vc
        refine sr_iload h dL_law_282 5 rfl ?_
        refine sr_icmp_eq (tgt := 289) h dL_law_284 (by decide) (fun c_40 => ?_) (fun c_40 => ?_)
        · replace vc := vc.1 c_40
          refine sr_iload h dL_law_289 5 rfl ?_
          refine sr_if_ne (tgt := 306) h dL_law_291 (by decide) (fun c_39 => ?_) (fun c_39 => ?_)
          · replace vc := vc.1 c_39
            refine sr_goto (tgt := 810) h dL_law_306 (by decide) ?_
            exact sr_sub (lv' := [(0, .ref a0), (1, .ref a1), (2, .ref a2), (3, .ref a3), (4, .int v4)]) [0, 1, 2, 3, 4] rfl vc
          · replace vc := vc.2 c_39
            refine sr_aload_n h dL_law_294 rfl 3 rfl ?_
            refine sr_iconst (v := 0) h dL_law_295 (by decide) ?_
            obtain ⟨N_32, f_33, ho_34, vc⟩ := vc
            obtain ⟨j_35, hi_36, hj_37, vc⟩ := vc
            refine sr_lald h dL_law_296 ho_34 hi_36 hj_37 ?_
            refine sr_iload h dL_law_297 6 rfl ?_
            refine sr_i2l h dL_law_299 ?_
            refine sr_lcmp h dL_law_300 ?_
            refine sr_if_eq (tgt := 306) h dL_law_301 (by decide) (fun c_38 => ?_) (fun c_38 => ?_)
            · replace vc := vc.1 c_38
              refine sr_goto (tgt := 810) h dL_law_306 (by decide) ?_
              exact sr_sub (lv' := [(0, .ref a0), (1, .ref a1), (2, .ref a2), (3, .ref a3), (4, .int v4)]) [0, 1, 2, 3, 4] rfl vc
            · replace vc := vc.2 c_38
              refine sr_iconst (v := 0) h dL_law_304 (by decide) ?_
              exact sr_zret h dL_law_305 rfl hc_25.1 hc_25.2 vc
        · replace vc := vc.2 c_40
          refine sr_iconst (v := 0) h dL_law_287 (by decide) ?_
          exact sr_zret h dL_law_288 rfl hc_25.1 hc_25.2 vc
      · replace vc := vc'
        clear vc'
        exact st_out h (fun _ z => nomatch z) hc_25.1 hc_25.2 vc
    · replace vc := vc'
      clear vc'
      exact st_out h (fun _ z => nomatch z) hc_16.1 hc_16.2 vc
  · replace vc := vc'
    clear vc'
    exact st_out h (fun _ z => nomatch z) hc_6.1 hc_6.2 vc
set_option maxRecDepth 100000 in
set_option maxHeartbeats 4000000 in
theorem bkL_law_309 {κ : sp_K} {x : sp_X} {mc ms : Nat} {Rt : Option Value → sp_M → Prop} {Xt : String → sp_M → Prop} {μ : sp_M} {k n : Nat} {a0 : Nat} {a1 : Nat} {a2 : Nat} {a3 : Nat} {v4 : Int32} {L : Nat} {xs : Nat → Int32} (h : cxL_law κ x mc ms) (hS0 : sp_S κ x a0 L xs) (hL0 : L < 2 ^ 31) (hk : k ≤ mc ∧ n ≤ ms)
    (vc : (∃ j_1 : Nat, v4 + 1 = nI j_1 ∧ j_1 < L ∧ (∃ j_4 : Nat, v4 + 2 = nI j_4 ∧ j_4 < L ∧ (∃ mc_7 ms_8 : Nat, (k + mc_7 ≤ mc ∧ n + ms_8 ≤ ms) ∧ sp_m x.2.1 κ yL_place wL_place 8 135 mc_7 ms_8 [.ref a1, .int (xs j_1), .int (xs j_4), .ref a3] μ (fun v_10 μ_11 => ∃ v_13 : Int32, v_10 = some (.int v_13) ∧ (∃ j_14 : Nat, v4 + 1 = nI j_14 ∧ j_14 < L ∧ (∃ j_17 : Nat, v4 + 2 = nI j_17 ∧ j_17 < L ∧ (∃ mc_20 ms_21 : Nat, ((k + mc_7) + mc_20 ≤ mc ∧ (n + ms_8) + ms_21 ≤ ms) ∧ ∃ fs_25 : List Value, μ_11 a2 = some (.inr (3, fs_25)) ∧ sp_m x.2.1 κ yM_place wM_place 8 133 mc_20 ms_21 [.ref a2, .int (xs j_14), .int (xs j_17)] μ_11 (fun v_23 μ_24 => ∃ v_28 : Int32, v_23 = some (.int v_28) ∧ (∃ mc_29 ms_30 : Nat, ((k + mc_7 + mc_20) + mc_29 ≤ mc ∧ (n + ms_8 + ms_21) + ms_30 ≤ ms) ∧ ∃ fs_34 : List Value, μ_24 a2 = some (.inr (3, fs_34)) ∧ sp_m x.2.1 κ yM_thrown wM_thrown 0 0 mc_29 ms_30 [.ref a2] μ_24 (fun v_32 μ_33 => ∃ v_37 : Int32, v_32 = some (.int v_37) ∧ ((v_37 = v_13 → ((¬ v_13 = 0 → sp_w κ x (sp_F κ x Rt Xt mc ms) (k + mc_7 + mc_20 + mc_29) (n + ms_8 + ms_21 + ms_30) 810 [(0, .ref a0), (1, .ref a1), (2, .ref a2), (3, .ref a3), (4, .int v4)] [] μ_33) ∧ (v_13 = 0 → (∃ (N_38 : Nat) (f_39 : Nat → Int64), μ_33 a3 = some (sp_la κ N_38 f_39) ∧ ∃ j_41 : Nat, 0 = nI j_41 ∧ j_41 < N_38 ∧ (((lg_cmp (f_39 j_41) (Int32.toInt64 v_28)) = 0 → sp_w κ x (sp_F κ x Rt Xt mc ms) (k + mc_7 + mc_20 + mc_29) (n + ms_8 + ms_21 + ms_30) 810 [(0, .ref a0), (1, .ref a1), (2, .ref a2), (3, .ref a3), (4, .int v4)] [] μ_33) ∧ (¬ (lg_cmp (f_39 j_41) (Int32.toInt64 v_28)) = 0 → Rt (some (.int 0)) μ_33)))))) ∧ (¬ v_37 = v_13 → Rt (some (.int 0)) μ_33))) (fun E_47 μ_33 => Xt E_47 μ_33))) (fun E_48 μ_24 => Xt E_48 μ_24))))) (fun E_49 μ_11 => Xt E_49 μ_11))))) : sp_w κ x (sp_F κ x Rt Xt mc ms) k n 309 [(0, .ref a0), (1, .ref a1), (2, .ref a2), (3, .ref a3), (4, .int v4)] [] μ := by
  refine sr_aload_n h dL_law_309 rfl 1 rfl ?_
  refine sr_aload_n h dL_law_310 rfl 0 rfl ?_
  refine sr_iload h dL_law_311 4 rfl ?_
  refine sr_iconst (v := 1) h dL_law_313 (by decide) ?_
  refine sr_iadd h dL_law_314 ?_
  obtain ⟨j_1, hi_2, hj_3, vc⟩ := vc
  refine sr_sld h hS0 hL0 dL_law_315 hi_2 hj_3 ?_
  refine sr_aload_n h dL_law_316 rfl 0 rfl ?_
  refine sr_iload h dL_law_317 4 rfl ?_
  refine sr_iconst (v := 2) h dL_law_319 (by decide) ?_
  refine sr_iadd h dL_law_320 ?_
  obtain ⟨j_4, hi_5, hj_6, vc⟩ := vc
  refine sr_sld h hS0 hL0 dL_law_321 hi_5 hj_6 ?_
  refine sr_aload_n h dL_law_322 rfl 3 rfl ?_
  obtain ⟨mc_7, ms_8, hc_9, vc⟩ := vc
  refine sr_callSH (y := yL_place) (n0 := 4) (As := [.ref a1, .int (xs j_1), .int (xs j_4), .ref a3]) (st := []) h (sp_gS kw_396 kw_397 kw_33 kw_398) rfl (by decide +kernel) ⟨Nat.le_of_ble_eq_true rfl, Nat.le_of_ble_eq_true rfl⟩ dL_law_323 rfl rfl (Nat.le_of_ble_eq_true rfl) hc_9 vc (fun v_10 μ_11 vc' => ?_) (fun E_49 μ_11 vc' => ?_)
  · replace vc := vc'
    clear vc'
    obtain ⟨v_13, rfl, vc⟩ := vc
    refine sr_istore (lv' := [(0, .ref a0), (1, .ref a1), (2, .ref a2), (3, .ref a3), (4, .int v4), (5, .int v_13)]) h dL_law_326 (by decide) rfl ?_
    refine sr_aload_n h dL_law_328 rfl 2 rfl ?_
    refine sr_aload_n h dL_law_329 rfl 0 rfl ?_
    refine sr_iload h dL_law_330 4 rfl ?_
    refine sr_iconst (v := 1) h dL_law_332 (by decide) ?_
    refine sr_iadd h dL_law_333 ?_
    obtain ⟨j_14, hi_15, hj_16, vc⟩ := vc
    refine sr_sld h hS0 hL0 dL_law_334 hi_15 hj_16 ?_
    refine sr_aload_n h dL_law_335 rfl 0 rfl ?_
    refine sr_iload h dL_law_336 4 rfl ?_
    refine sr_iconst (v := 2) h dL_law_338 (by decide) ?_
    refine sr_iadd h dL_law_339 ?_
    obtain ⟨j_17, hi_18, hj_19, vc⟩ := vc
    refine sr_sld h hS0 hL0 dL_law_340 hi_18 hj_19 ?_
    obtain ⟨mc_20, ms_21, hc_22, vc⟩ := vc
    obtain ⟨fs_25, ho_26, vc⟩ := vc
    refine sr_callVH (y := yM_place) (n0 := 2) (As := [.int (xs j_14), .int (xs j_17)]) h (sp_gV kw_570 kw_571 kw_572 kw_35 kw_573) rfl (by decide +kernel) ⟨Nat.le_of_ble_eq_true rfl, Nat.le_of_ble_eq_true rfl⟩ (ci := 3) rfl dL_law_341 rfl rfl (Nat.le_of_ble_eq_true rfl) hc_22 ho_26 vc (fun v_23 μ_24 vc' => ?_) (fun E_48 μ_24 vc' => ?_)
    · replace vc := vc'
      clear vc'
      obtain ⟨v_28, rfl, vc⟩ := vc
      refine sr_istore (lv' := [(0, .ref a0), (1, .ref a1), (2, .ref a2), (3, .ref a3), (4, .int v4), (5, .int v_13), (6, .int v_28)]) h dL_law_344 (by decide) rfl ?_
      refine sr_aload_n h dL_law_346 rfl 2 rfl ?_
      obtain ⟨mc_29, ms_30, hc_31, vc⟩ := vc
      obtain ⟨fs_34, ho_35, vc⟩ := vc
      refine sr_callV (y := yM_thrown) (n0 := 0) (As := []) h (sp_gV kw_498 kw_499 kw_500 kw_35 kw_501) rfl (by decide +kernel) ⟨Nat.le_of_ble_eq_true rfl, Nat.le_of_ble_eq_true rfl⟩ (ci := 3) rfl dL_law_347 rfl rfl (Nat.le_of_ble_eq_true rfl) hc_31 ho_35 vc (fun v_32 μ_33 vc' => ?_) (fun E_47 μ_33 vc' => ?_)
      · replace vc := vc'
        clear vc'
        obtain ⟨v_37, rfl, vc⟩ := vc
        refine sr_iload h dL_law_350 5 rfl ?_
        refine sr_icmp_eq (tgt := 357) h dL_law_352 (by decide) (fun c_46 => ?_) (fun c_46 => ?_)
        · replace vc := vc.1 c_46
          refine sr_iload h dL_law_357 5 rfl ?_
          refine sr_if_ne (tgt := 374) h dL_law_359 (by decide) (fun c_45 => ?_) (fun c_45 => ?_)
          · replace vc := vc.1 c_45
            refine sr_goto (tgt := 810) h dL_law_374 (by decide) ?_
            exact sr_sub (lv' := [(0, .ref a0), (1, .ref a1), (2, .ref a2), (3, .ref a3), (4, .int v4)]) [0, 1, 2, 3, 4] rfl vc
          · replace vc := vc.2 c_45
            refine sr_aload_n h dL_law_362 rfl 3 rfl ?_
            refine sr_iconst (v := 0) h dL_law_363 (by decide) ?_
            obtain ⟨N_38, f_39, ho_40, vc⟩ := vc
            obtain ⟨j_41, hi_42, hj_43, vc⟩ := vc
            refine sr_lald h dL_law_364 ho_40 hi_42 hj_43 ?_
            refine sr_iload h dL_law_365 6 rfl ?_
            refine sr_i2l h dL_law_367 ?_
            refine sr_lcmp h dL_law_368 ?_
            refine sr_if_eq (tgt := 374) h dL_law_369 (by decide) (fun c_44 => ?_) (fun c_44 => ?_)
            · replace vc := vc.1 c_44
              refine sr_goto (tgt := 810) h dL_law_374 (by decide) ?_
              exact sr_sub (lv' := [(0, .ref a0), (1, .ref a1), (2, .ref a2), (3, .ref a3), (4, .int v4)]) [0, 1, 2, 3, 4] rfl vc
            · replace vc := vc.2 c_44
              refine sr_iconst (v := 0) h dL_law_372 (by decide) ?_
              exact sr_zret h dL_law_373 rfl hc_31.1 hc_31.2 vc
        · replace vc := vc.2 c_46
          refine sr_iconst (v := 0) h dL_law_355 (by decide) ?_
          exact sr_zret h dL_law_356 rfl hc_31.1 hc_31.2 vc
      · replace vc := vc'
        clear vc'
        exact st_out h (fun _ z => nomatch z) hc_31.1 hc_31.2 vc
    · replace vc := vc'
      clear vc'
      exact st_out h (fun _ z => nomatch z) hc_22.1 hc_22.2 vc
  · replace vc := vc'
    clear vc'
    exact st_out h (fun _ z => nomatch z) hc_9.1 hc_9.2 vc
set_option maxRecDepth 100000 in
set_option maxHeartbeats 4000000 in
theorem bkL_law_377 {κ : sp_K} {x : sp_X} {mc ms : Nat} {Rt : Option Value → sp_M → Prop} {Xt : String → sp_M → Prop} {μ : sp_M} {k n : Nat} {a0 : Nat} {a1 : Nat} {a2 : Nat} {a3 : Nat} {v4 : Int32} {L : Nat} {xs : Nat → Int32} (h : cxL_law κ x mc ms) (hS0 : sp_S κ x a0 L xs) (hL0 : L < 2 ^ 31) (hk : k ≤ mc ∧ n ≤ ms)
    (vc : (∃ j_1 : Nat, v4 + 1 = nI j_1 ∧ j_1 < L ∧ (∃ mc_4 ms_5 : Nat, (k + mc_4 ≤ mc ∧ n + ms_5 ≤ ms) ∧ sp_m x.2.1 κ yL_id wL_id 8 133 mc_4 ms_5 [.ref a1, .int (xs j_1), .ref a3] μ (fun v_7 μ_8 => ∃ v_10 : Int32, v_7 = some (.int v_10) ∧ (∃ j_11 : Nat, v4 + 1 = nI j_11 ∧ j_11 < L ∧ (∃ mc_14 ms_15 : Nat, ((k + mc_4) + mc_14 ≤ mc ∧ (n + ms_5) + ms_15 ≤ ms) ∧ ∃ fs_19 : List Value, μ_8 a2 = some (.inr (3, fs_19)) ∧ sp_m x.2.1 κ yM_id wM_id 8 131 mc_14 ms_15 [.ref a2, .int (xs j_11)] μ_8 (fun v_17 μ_18 => ∃ v_22 : Int64, v_17 = some (.long v_22) ∧ (∃ mc_23 ms_24 : Nat, ((k + mc_4 + mc_14) + mc_23 ≤ mc ∧ (n + ms_5 + ms_15) + ms_24 ≤ ms) ∧ ∃ fs_28 : List Value, μ_18 a2 = some (.inr (3, fs_28)) ∧ sp_m x.2.1 κ yM_thrown wM_thrown 0 0 mc_23 ms_24 [.ref a2] μ_18 (fun v_26 μ_27 => ∃ v_31 : Int32, v_26 = some (.int v_31) ∧ ((v_31 = v_10 → ((¬ v_10 = 0 → sp_w κ x (sp_F κ x Rt Xt mc ms) (k + mc_4 + mc_14 + mc_23) (n + ms_5 + ms_15 + ms_24) 810 [(0, .ref a0), (1, .ref a1), (2, .ref a2), (3, .ref a3), (4, .int v4)] [] μ_27) ∧ (v_10 = 0 → (∃ (N_32 : Nat) (f_33 : Nat → Int64), μ_27 a3 = some (sp_la κ N_32 f_33) ∧ ∃ j_35 : Nat, 0 = nI j_35 ∧ j_35 < N_32 ∧ (((lg_cmp (f_33 j_35) v_22) = 0 → sp_w κ x (sp_F κ x Rt Xt mc ms) (k + mc_4 + mc_14 + mc_23) (n + ms_5 + ms_15 + ms_24) 810 [(0, .ref a0), (1, .ref a1), (2, .ref a2), (3, .ref a3), (4, .int v4)] [] μ_27) ∧ (¬ (lg_cmp (f_33 j_35) v_22) = 0 → Rt (some (.int 0)) μ_27)))))) ∧ (¬ v_31 = v_10 → Rt (some (.int 0)) μ_27))) (fun E_41 μ_27 => Xt E_41 μ_27))) (fun E_42 μ_18 => Xt E_42 μ_18)))) (fun E_43 μ_8 => Xt E_43 μ_8)))) : sp_w κ x (sp_F κ x Rt Xt mc ms) k n 377 [(0, .ref a0), (1, .ref a1), (2, .ref a2), (3, .ref a3), (4, .int v4)] [] μ := by
  refine sr_aload_n h dL_law_377 rfl 1 rfl ?_
  refine sr_aload_n h dL_law_378 rfl 0 rfl ?_
  refine sr_iload h dL_law_379 4 rfl ?_
  refine sr_iconst (v := 1) h dL_law_381 (by decide) ?_
  refine sr_iadd h dL_law_382 ?_
  obtain ⟨j_1, hi_2, hj_3, vc⟩ := vc
  refine sr_sld h hS0 hL0 dL_law_383 hi_2 hj_3 ?_
  refine sr_aload_n h dL_law_384 rfl 3 rfl ?_
  obtain ⟨mc_4, ms_5, hc_6, vc⟩ := vc
  refine sr_callSH (y := yL_id) (n0 := 3) (As := [.ref a1, .int (xs j_1), .ref a3]) (st := []) h (sp_gS kw_403 kw_404 kw_33 kw_405) rfl (by decide +kernel) ⟨Nat.le_of_ble_eq_true rfl, Nat.le_of_ble_eq_true rfl⟩ dL_law_385 rfl rfl (Nat.le_of_ble_eq_true rfl) hc_6 vc (fun v_7 μ_8 vc' => ?_) (fun E_43 μ_8 vc' => ?_)
  · replace vc := vc'
    clear vc'
    obtain ⟨v_10, rfl, vc⟩ := vc
    refine sr_istore (lv' := [(0, .ref a0), (1, .ref a1), (2, .ref a2), (3, .ref a3), (4, .int v4), (5, .int v_10)]) h dL_law_388 (by decide) rfl ?_
    refine sr_aload_n h dL_law_390 rfl 2 rfl ?_
    refine sr_aload_n h dL_law_391 rfl 0 rfl ?_
    refine sr_iload h dL_law_392 4 rfl ?_
    refine sr_iconst (v := 1) h dL_law_394 (by decide) ?_
    refine sr_iadd h dL_law_395 ?_
    obtain ⟨j_11, hi_12, hj_13, vc⟩ := vc
    refine sr_sld h hS0 hL0 dL_law_396 hi_12 hj_13 ?_
    obtain ⟨mc_14, ms_15, hc_16, vc⟩ := vc
    obtain ⟨fs_19, ho_20, vc⟩ := vc
    refine sr_callVH (y := yM_id) (n0 := 1) (As := [.int (xs j_11)]) h (sp_gV kw_578 kw_579 kw_580 kw_35 kw_581) rfl (by decide +kernel) ⟨Nat.le_of_ble_eq_true rfl, Nat.le_of_ble_eq_true rfl⟩ (ci := 3) rfl dL_law_397 rfl rfl (Nat.le_of_ble_eq_true rfl) hc_16 ho_20 vc (fun v_17 μ_18 vc' => ?_) (fun E_42 μ_18 vc' => ?_)
    · replace vc := vc'
      clear vc'
      obtain ⟨v_22, rfl, vc⟩ := vc
      refine sr_lstore6 h dL_law_400 (by decide) (by intro q hq; simp only [List.mem_cons, List.not_mem_nil, or_false] at hq; rcases hq with rfl | rfl | rfl | rfl | rfl | rfl <;> exact Nat.le_of_ble_eq_true rfl) ?_
      refine sw_aload_n h dL_law_402 rfl 2 rfl ?_
      obtain ⟨mc_23, ms_24, hc_25, vc⟩ := vc
      obtain ⟨fs_28, ho_29, vc⟩ := vc
      refine sw_callV (y := yM_thrown) (n0 := 0) (As := []) h (sp_gV kw_498 kw_499 kw_500 kw_35 kw_501) rfl (by decide +kernel) ⟨Nat.le_of_ble_eq_true rfl, Nat.le_of_ble_eq_true rfl⟩ (ci := 3) rfl dL_law_403 rfl rfl (Nat.le_of_ble_eq_true rfl) hc_25 ho_29 vc (fun v_26 μ_27 vc' => ?_) (fun E_41 μ_27 vc' => ?_)
      · replace vc := vc'
        clear vc'
        obtain ⟨v_31, rfl, vc⟩ := vc
        refine sw_iload h dL_law_406 5 rfl ?_
        refine sw_icmp_eq (tgt := 413) h dL_law_408 (by decide) (fun c_40 => ?_) (fun c_40 => ?_)
        · replace vc := vc.1 c_40
          refine sw_iload h dL_law_413 5 rfl ?_
          refine sw_if_ne (tgt := 429) h dL_law_415 (by decide) (fun c_39 => ?_) (fun c_39 => ?_)
          · replace vc := vc.1 c_39
            refine sw_goto (tgt := 810) h dL_law_429 (by decide) ?_
            refine sw_drop ?_
            exact sr_sub (lv' := [(0, .ref a0), (1, .ref a1), (2, .ref a2), (3, .ref a3), (4, .int v4)]) [0, 1, 2, 3, 4] rfl vc
          · replace vc := vc.2 c_39
            refine sw_aload_n h dL_law_418 rfl 3 rfl ?_
            refine sw_iconst (v := 0) h dL_law_419 (by decide) ?_
            obtain ⟨N_32, f_33, ho_34, vc⟩ := vc
            obtain ⟨j_35, hi_36, hj_37, vc⟩ := vc
            refine sw_lald h dL_law_420 ho_34 hi_36 hj_37 ?_
            refine sw_lload6 h dL_law_421 ?_
            refine sw_lcmp h dL_law_423 ?_
            refine sw_if_eq (tgt := 429) h dL_law_424 (by decide) (fun c_38 => ?_) (fun c_38 => ?_)
            · replace vc := vc.1 c_38
              refine sw_goto (tgt := 810) h dL_law_429 (by decide) ?_
              refine sw_drop ?_
              exact sr_sub (lv' := [(0, .ref a0), (1, .ref a1), (2, .ref a2), (3, .ref a3), (4, .int v4)]) [0, 1, 2, 3, 4] rfl vc
            · replace vc := vc.2 c_38
              refine sw_iconst (v := 0) h dL_law_427 (by decide) ?_
              exact sw_zret h dL_law_428 rfl hc_25.1 hc_25.2 vc
        · replace vc := vc.2 c_40
          refine sw_iconst (v := 0) h dL_law_411 (by decide) ?_
          exact sw_zret h dL_law_412 rfl hc_25.1 hc_25.2 vc
      · replace vc := vc'
        clear vc'
        exact st_out h (fun _ z => nomatch z) hc_25.1 hc_25.2 vc
    · replace vc := vc'
      clear vc'
      exact st_out h (fun _ z => nomatch z) hc_16.1 hc_16.2 vc
  · replace vc := vc'
    clear vc'
    exact st_out h (fun _ z => nomatch z) hc_6.1 hc_6.2 vc
set_option maxRecDepth 100000 in
set_option maxHeartbeats 4000000 in
theorem bkL_law_432 {κ : sp_K} {x : sp_X} {mc ms : Nat} {Rt : Option Value → sp_M → Prop} {Xt : String → sp_M → Prop} {μ : sp_M} {k n : Nat} {a0 : Nat} {a1 : Nat} {a2 : Nat} {a3 : Nat} {v4 : Int32} {L : Nat} {xs : Nat → Int32} (h : cxL_law κ x mc ms) (hS0 : sp_S κ x a0 L xs) (hL0 : L < 2 ^ 31) (hk : k ≤ mc ∧ n ≤ ms)
    (vc : (∃ j_1 : Nat, v4 + 1 = nI j_1 ∧ j_1 < L ∧ (∃ j_4 : Nat, v4 + 2 = nI j_4 ∧ j_4 < L ∧ (∃ mc_7 ms_8 : Nat, (k + mc_7 ≤ mc ∧ n + ms_8 ≤ ms) ∧ sp_m x.2.1 κ yL_parentOf wL_parentOf 8 136 mc_7 ms_8 [.ref a1, .int (xs j_1), .int (xs j_4), .ref a3] μ (fun v_10 μ_11 => ∃ v_13 : Int32, v_10 = some (.int v_13) ∧ (∃ j_14 : Nat, v4 + 1 = nI j_14 ∧ j_14 < L ∧ (∃ j_17 : Nat, v4 + 2 = nI j_17 ∧ j_17 < L ∧ (∃ mc_20 ms_21 : Nat, ((k + mc_7) + mc_20 ≤ mc ∧ (n + ms_8) + ms_21 ≤ ms) ∧ ∃ fs_25 : List Value, μ_11 a2 = some (.inr (3, fs_25)) ∧ sp_m x.2.1 κ yM_parentOf wM_parentOf 8 132 mc_20 ms_21 [.ref a2, .int (xs j_14), .int (xs j_17)] μ_11 (fun v_23 μ_24 => ∃ v_28 : Int32, v_23 = some (.int v_28) ∧ (∃ mc_29 ms_30 : Nat, ((k + mc_7 + mc_20) + mc_29 ≤ mc ∧ (n + ms_8 + ms_21) + ms_30 ≤ ms) ∧ ∃ fs_34 : List Value, μ_24 a2 = some (.inr (3, fs_34)) ∧ sp_m x.2.1 κ yM_thrown wM_thrown 0 0 mc_29 ms_30 [.ref a2] μ_24 (fun v_32 μ_33 => ∃ v_37 : Int32, v_32 = some (.int v_37) ∧ ((v_37 = v_13 → ((¬ v_13 = 0 → sp_w κ x (sp_F κ x Rt Xt mc ms) (k + mc_7 + mc_20 + mc_29) (n + ms_8 + ms_21 + ms_30) 810 [(0, .ref a0), (1, .ref a1), (2, .ref a2), (3, .ref a3), (4, .int v4)] [] μ_33) ∧ (v_13 = 0 → (∃ (N_38 : Nat) (f_39 : Nat → Int64), μ_33 a3 = some (sp_la κ N_38 f_39) ∧ ∃ j_41 : Nat, 0 = nI j_41 ∧ j_41 < N_38 ∧ (((lg_cmp (f_39 j_41) (Int32.toInt64 v_28)) = 0 → sp_w κ x (sp_F κ x Rt Xt mc ms) (k + mc_7 + mc_20 + mc_29) (n + ms_8 + ms_21 + ms_30) 810 [(0, .ref a0), (1, .ref a1), (2, .ref a2), (3, .ref a3), (4, .int v4)] [] μ_33) ∧ (¬ (lg_cmp (f_39 j_41) (Int32.toInt64 v_28)) = 0 → Rt (some (.int 0)) μ_33)))))) ∧ (¬ v_37 = v_13 → Rt (some (.int 0)) μ_33))) (fun E_47 μ_33 => Xt E_47 μ_33))) (fun E_48 μ_24 => Xt E_48 μ_24))))) (fun E_49 μ_11 => Xt E_49 μ_11))))) : sp_w κ x (sp_F κ x Rt Xt mc ms) k n 432 [(0, .ref a0), (1, .ref a1), (2, .ref a2), (3, .ref a3), (4, .int v4)] [] μ := by
  refine sr_aload_n h dL_law_432 rfl 1 rfl ?_
  refine sr_aload_n h dL_law_433 rfl 0 rfl ?_
  refine sr_iload h dL_law_434 4 rfl ?_
  refine sr_iconst (v := 1) h dL_law_436 (by decide) ?_
  refine sr_iadd h dL_law_437 ?_
  obtain ⟨j_1, hi_2, hj_3, vc⟩ := vc
  refine sr_sld h hS0 hL0 dL_law_438 hi_2 hj_3 ?_
  refine sr_aload_n h dL_law_439 rfl 0 rfl ?_
  refine sr_iload h dL_law_440 4 rfl ?_
  refine sr_iconst (v := 2) h dL_law_442 (by decide) ?_
  refine sr_iadd h dL_law_443 ?_
  obtain ⟨j_4, hi_5, hj_6, vc⟩ := vc
  refine sr_sld h hS0 hL0 dL_law_444 hi_5 hj_6 ?_
  refine sr_aload_n h dL_law_445 rfl 3 rfl ?_
  obtain ⟨mc_7, ms_8, hc_9, vc⟩ := vc
  refine sr_callSH (y := yL_parentOf) (n0 := 4) (As := [.ref a1, .int (xs j_1), .int (xs j_4), .ref a3]) (st := []) h (sp_gS kw_410 kw_411 kw_33 kw_412) rfl (by decide +kernel) ⟨Nat.le_of_ble_eq_true rfl, Nat.le_of_ble_eq_true rfl⟩ dL_law_446 rfl rfl (Nat.le_of_ble_eq_true rfl) hc_9 vc (fun v_10 μ_11 vc' => ?_) (fun E_49 μ_11 vc' => ?_)
  · replace vc := vc'
    clear vc'
    obtain ⟨v_13, rfl, vc⟩ := vc
    refine sr_istore (lv' := [(0, .ref a0), (1, .ref a1), (2, .ref a2), (3, .ref a3), (4, .int v4), (5, .int v_13)]) h dL_law_449 (by decide) rfl ?_
    refine sr_aload_n h dL_law_451 rfl 2 rfl ?_
    refine sr_aload_n h dL_law_452 rfl 0 rfl ?_
    refine sr_iload h dL_law_453 4 rfl ?_
    refine sr_iconst (v := 1) h dL_law_455 (by decide) ?_
    refine sr_iadd h dL_law_456 ?_
    obtain ⟨j_14, hi_15, hj_16, vc⟩ := vc
    refine sr_sld h hS0 hL0 dL_law_457 hi_15 hj_16 ?_
    refine sr_aload_n h dL_law_458 rfl 0 rfl ?_
    refine sr_iload h dL_law_459 4 rfl ?_
    refine sr_iconst (v := 2) h dL_law_461 (by decide) ?_
    refine sr_iadd h dL_law_462 ?_
    obtain ⟨j_17, hi_18, hj_19, vc⟩ := vc
    refine sr_sld h hS0 hL0 dL_law_463 hi_18 hj_19 ?_
    obtain ⟨mc_20, ms_21, hc_22, vc⟩ := vc
    obtain ⟨fs_25, ho_26, vc⟩ := vc
    refine sr_callVH (y := yM_parentOf) (n0 := 2) (As := [.int (xs j_14), .int (xs j_17)]) h (sp_gV kw_591 kw_592 kw_593 kw_35 kw_594) rfl (by decide +kernel) ⟨Nat.le_of_ble_eq_true rfl, Nat.le_of_ble_eq_true rfl⟩ (ci := 3) rfl dL_law_464 rfl rfl (Nat.le_of_ble_eq_true rfl) hc_22 ho_26 vc (fun v_23 μ_24 vc' => ?_) (fun E_48 μ_24 vc' => ?_)
    · replace vc := vc'
      clear vc'
      obtain ⟨v_28, rfl, vc⟩ := vc
      refine sr_istore (lv' := [(0, .ref a0), (1, .ref a1), (2, .ref a2), (3, .ref a3), (4, .int v4), (5, .int v_13), (6, .int v_28)]) h dL_law_467 (by decide) rfl ?_
      refine sr_aload_n h dL_law_469 rfl 2 rfl ?_
      obtain ⟨mc_29, ms_30, hc_31, vc⟩ := vc
      obtain ⟨fs_34, ho_35, vc⟩ := vc
      refine sr_callV (y := yM_thrown) (n0 := 0) (As := []) h (sp_gV kw_498 kw_499 kw_500 kw_35 kw_501) rfl (by decide +kernel) ⟨Nat.le_of_ble_eq_true rfl, Nat.le_of_ble_eq_true rfl⟩ (ci := 3) rfl dL_law_470 rfl rfl (Nat.le_of_ble_eq_true rfl) hc_31 ho_35 vc (fun v_32 μ_33 vc' => ?_) (fun E_47 μ_33 vc' => ?_)
      · replace vc := vc'
        clear vc'
        obtain ⟨v_37, rfl, vc⟩ := vc
        refine sr_iload h dL_law_473 5 rfl ?_
        refine sr_icmp_eq (tgt := 480) h dL_law_475 (by decide) (fun c_46 => ?_) (fun c_46 => ?_)
        · replace vc := vc.1 c_46
          refine sr_iload h dL_law_480 5 rfl ?_
          refine sr_if_ne (tgt := 497) h dL_law_482 (by decide) (fun c_45 => ?_) (fun c_45 => ?_)
          · replace vc := vc.1 c_45
            refine sr_goto (tgt := 810) h dL_law_497 (by decide) ?_
            exact sr_sub (lv' := [(0, .ref a0), (1, .ref a1), (2, .ref a2), (3, .ref a3), (4, .int v4)]) [0, 1, 2, 3, 4] rfl vc
          · replace vc := vc.2 c_45
            refine sr_aload_n h dL_law_485 rfl 3 rfl ?_
            refine sr_iconst (v := 0) h dL_law_486 (by decide) ?_
            obtain ⟨N_38, f_39, ho_40, vc⟩ := vc
            obtain ⟨j_41, hi_42, hj_43, vc⟩ := vc
            refine sr_lald h dL_law_487 ho_40 hi_42 hj_43 ?_
            refine sr_iload h dL_law_488 6 rfl ?_
            refine sr_i2l h dL_law_490 ?_
            refine sr_lcmp h dL_law_491 ?_
            refine sr_if_eq (tgt := 497) h dL_law_492 (by decide) (fun c_44 => ?_) (fun c_44 => ?_)
            · replace vc := vc.1 c_44
              refine sr_goto (tgt := 810) h dL_law_497 (by decide) ?_
              exact sr_sub (lv' := [(0, .ref a0), (1, .ref a1), (2, .ref a2), (3, .ref a3), (4, .int v4)]) [0, 1, 2, 3, 4] rfl vc
            · replace vc := vc.2 c_44
              refine sr_iconst (v := 0) h dL_law_495 (by decide) ?_
              exact sr_zret h dL_law_496 rfl hc_31.1 hc_31.2 vc
        · replace vc := vc.2 c_46
          refine sr_iconst (v := 0) h dL_law_478 (by decide) ?_
          exact sr_zret h dL_law_479 rfl hc_31.1 hc_31.2 vc
      · replace vc := vc'
        clear vc'
        exact st_out h (fun _ z => nomatch z) hc_31.1 hc_31.2 vc
    · replace vc := vc'
      clear vc'
      exact st_out h (fun _ z => nomatch z) hc_22.1 hc_22.2 vc
  · replace vc := vc'
    clear vc'
    exact st_out h (fun _ z => nomatch z) hc_9.1 hc_9.2 vc
set_option maxRecDepth 100000 in
set_option maxHeartbeats 4000000 in
theorem bkL_law_500 {κ : sp_K} {x : sp_X} {mc ms : Nat} {Rt : Option Value → sp_M → Prop} {Xt : String → sp_M → Prop} {μ : sp_M} {k n : Nat} {a0 : Nat} {a1 : Nat} {a2 : Nat} {a3 : Nat} {v4 : Int32} {L : Nat} {xs : Nat → Int32} (h : cxL_law κ x mc ms) (hS0 : sp_S κ x a0 L xs) (hL0 : L < 2 ^ 31) (hk : k ≤ mc ∧ n ≤ ms)
    (vc : (∃ j_1 : Nat, v4 + 1 = nI j_1 ∧ j_1 < L ∧ (∃ j_4 : Nat, v4 + 2 = nI j_4 ∧ j_4 < L ∧ (∃ mc_7 ms_8 : Nat, (k + mc_7 ≤ mc ∧ n + ms_8 ≤ ms) ∧ sp_m x.2.1 κ yL_related wL_related 9 157 mc_7 ms_8 [.ref a1, .int (xs j_1), .int (xs j_4), .ref a3] μ (fun v_10 μ_11 => ∃ v_13 : Int32, v_10 = some (.int v_13) ∧ (∃ j_14 : Nat, v4 + 1 = nI j_14 ∧ j_14 < L ∧ (∃ j_17 : Nat, v4 + 2 = nI j_17 ∧ j_17 < L ∧ (∃ mc_20 ms_21 : Nat, ((k + mc_7) + mc_20 ≤ mc ∧ (n + ms_8) + ms_21 ≤ ms) ∧ ∃ fs_25 : List Value, μ_11 a2 = some (.inr (3, fs_25)) ∧ sp_m x.2.1 κ yM_related wM_related 8 132 mc_20 ms_21 [.ref a2, .int (xs j_14), .int (xs j_17)] μ_11 (fun v_23 μ_24 => ∃ v_28 : Int32, v_23 = some (.int v_28) ∧ (∃ mc_29 ms_30 : Nat, ((k + mc_7 + mc_20) + mc_29 ≤ mc ∧ (n + ms_8 + ms_21) + ms_30 ≤ ms) ∧ ∃ fs_34 : List Value, μ_24 a2 = some (.inr (3, fs_34)) ∧ sp_m x.2.1 κ yM_thrown wM_thrown 0 0 mc_29 ms_30 [.ref a2] μ_24 (fun v_32 μ_33 => ∃ v_37 : Int32, v_32 = some (.int v_37) ∧ ((v_37 = v_13 → ((¬ v_13 = 0 → sp_w κ x (sp_F κ x Rt Xt mc ms) (k + mc_7 + mc_20 + mc_29) (n + ms_8 + ms_21 + ms_30) 810 [(0, .ref a0), (1, .ref a1), (2, .ref a2), (3, .ref a3), (4, .int v4)] [] μ_33) ∧ (v_13 = 0 → (∃ (N_38 : Nat) (f_39 : Nat → Int64), μ_33 a3 = some (sp_la κ N_38 f_39) ∧ ∃ j_41 : Nat, 0 = nI j_41 ∧ j_41 < N_38 ∧ (((lg_cmp (f_39 j_41) (Int32.toInt64 v_28)) = 0 → sp_w κ x (sp_F κ x Rt Xt mc ms) (k + mc_7 + mc_20 + mc_29) (n + ms_8 + ms_21 + ms_30) 810 [(0, .ref a0), (1, .ref a1), (2, .ref a2), (3, .ref a3), (4, .int v4)] [] μ_33) ∧ (¬ (lg_cmp (f_39 j_41) (Int32.toInt64 v_28)) = 0 → Rt (some (.int 0)) μ_33)))))) ∧ (¬ v_37 = v_13 → Rt (some (.int 0)) μ_33))) (fun E_47 μ_33 => Xt E_47 μ_33))) (fun E_48 μ_24 => Xt E_48 μ_24))))) (fun E_49 μ_11 => Xt E_49 μ_11))))) : sp_w κ x (sp_F κ x Rt Xt mc ms) k n 500 [(0, .ref a0), (1, .ref a1), (2, .ref a2), (3, .ref a3), (4, .int v4)] [] μ := by
  refine sr_aload_n h dL_law_500 rfl 1 rfl ?_
  refine sr_aload_n h dL_law_501 rfl 0 rfl ?_
  refine sr_iload h dL_law_502 4 rfl ?_
  refine sr_iconst (v := 1) h dL_law_504 (by decide) ?_
  refine sr_iadd h dL_law_505 ?_
  obtain ⟨j_1, hi_2, hj_3, vc⟩ := vc
  refine sr_sld h hS0 hL0 dL_law_506 hi_2 hj_3 ?_
  refine sr_aload_n h dL_law_507 rfl 0 rfl ?_
  refine sr_iload h dL_law_508 4 rfl ?_
  refine sr_iconst (v := 2) h dL_law_510 (by decide) ?_
  refine sr_iadd h dL_law_511 ?_
  obtain ⟨j_4, hi_5, hj_6, vc⟩ := vc
  refine sr_sld h hS0 hL0 dL_law_512 hi_5 hj_6 ?_
  refine sr_aload_n h dL_law_513 rfl 3 rfl ?_
  obtain ⟨mc_7, ms_8, hc_9, vc⟩ := vc
  refine sr_callSH (y := yL_related) (n0 := 4) (As := [.ref a1, .int (xs j_1), .int (xs j_4), .ref a3]) (st := []) h (sp_gS kw_417 kw_418 kw_33 kw_419) rfl (by decide +kernel) ⟨Nat.le_of_ble_eq_true rfl, Nat.le_of_ble_eq_true rfl⟩ dL_law_514 rfl rfl (Nat.le_of_ble_eq_true rfl) hc_9 vc (fun v_10 μ_11 vc' => ?_) (fun E_49 μ_11 vc' => ?_)
  · replace vc := vc'
    clear vc'
    obtain ⟨v_13, rfl, vc⟩ := vc
    refine sr_istore (lv' := [(0, .ref a0), (1, .ref a1), (2, .ref a2), (3, .ref a3), (4, .int v4), (5, .int v_13)]) h dL_law_517 (by decide) rfl ?_
    refine sr_aload_n h dL_law_519 rfl 2 rfl ?_
    refine sr_aload_n h dL_law_520 rfl 0 rfl ?_
    refine sr_iload h dL_law_521 4 rfl ?_
    refine sr_iconst (v := 1) h dL_law_523 (by decide) ?_
    refine sr_iadd h dL_law_524 ?_
    obtain ⟨j_14, hi_15, hj_16, vc⟩ := vc
    refine sr_sld h hS0 hL0 dL_law_525 hi_15 hj_16 ?_
    refine sr_aload_n h dL_law_526 rfl 0 rfl ?_
    refine sr_iload h dL_law_527 4 rfl ?_
    refine sr_iconst (v := 2) h dL_law_529 (by decide) ?_
    refine sr_iadd h dL_law_530 ?_
    obtain ⟨j_17, hi_18, hj_19, vc⟩ := vc
    refine sr_sld h hS0 hL0 dL_law_531 hi_18 hj_19 ?_
    obtain ⟨mc_20, ms_21, hc_22, vc⟩ := vc
    obtain ⟨fs_25, ho_26, vc⟩ := vc
    refine sr_callVH (y := yM_related) (n0 := 2) (As := [.int (xs j_14), .int (xs j_17)]) h (sp_gV kw_599 kw_600 kw_601 kw_35 kw_602) rfl (by decide +kernel) ⟨Nat.le_of_ble_eq_true rfl, Nat.le_of_ble_eq_true rfl⟩ (ci := 3) rfl dL_law_532 rfl rfl (Nat.le_of_ble_eq_true rfl) hc_22 ho_26 vc (fun v_23 μ_24 vc' => ?_) (fun E_48 μ_24 vc' => ?_)
    · replace vc := vc'
      clear vc'
      obtain ⟨v_28, rfl, vc⟩ := vc
      refine sr_istore (lv' := [(0, .ref a0), (1, .ref a1), (2, .ref a2), (3, .ref a3), (4, .int v4), (5, .int v_13), (6, .int v_28)]) h dL_law_535 (by decide) rfl ?_
      refine sr_aload_n h dL_law_537 rfl 2 rfl ?_
      obtain ⟨mc_29, ms_30, hc_31, vc⟩ := vc
      obtain ⟨fs_34, ho_35, vc⟩ := vc
      refine sr_callV (y := yM_thrown) (n0 := 0) (As := []) h (sp_gV kw_498 kw_499 kw_500 kw_35 kw_501) rfl (by decide +kernel) ⟨Nat.le_of_ble_eq_true rfl, Nat.le_of_ble_eq_true rfl⟩ (ci := 3) rfl dL_law_538 rfl rfl (Nat.le_of_ble_eq_true rfl) hc_31 ho_35 vc (fun v_32 μ_33 vc' => ?_) (fun E_47 μ_33 vc' => ?_)
      · replace vc := vc'
        clear vc'
        obtain ⟨v_37, rfl, vc⟩ := vc
        refine sr_iload h dL_law_541 5 rfl ?_
        refine sr_icmp_eq (tgt := 548) h dL_law_543 (by decide) (fun c_46 => ?_) (fun c_46 => ?_)
        · replace vc := vc.1 c_46
          refine sr_iload h dL_law_548 5 rfl ?_
          refine sr_if_ne (tgt := 565) h dL_law_550 (by decide) (fun c_45 => ?_) (fun c_45 => ?_)
          · replace vc := vc.1 c_45
            refine sr_goto (tgt := 810) h dL_law_565 (by decide) ?_
            exact sr_sub (lv' := [(0, .ref a0), (1, .ref a1), (2, .ref a2), (3, .ref a3), (4, .int v4)]) [0, 1, 2, 3, 4] rfl vc
          · replace vc := vc.2 c_45
            refine sr_aload_n h dL_law_553 rfl 3 rfl ?_
            refine sr_iconst (v := 0) h dL_law_554 (by decide) ?_
            obtain ⟨N_38, f_39, ho_40, vc⟩ := vc
            obtain ⟨j_41, hi_42, hj_43, vc⟩ := vc
            refine sr_lald h dL_law_555 ho_40 hi_42 hj_43 ?_
            refine sr_iload h dL_law_556 6 rfl ?_
            refine sr_i2l h dL_law_558 ?_
            refine sr_lcmp h dL_law_559 ?_
            refine sr_if_eq (tgt := 565) h dL_law_560 (by decide) (fun c_44 => ?_) (fun c_44 => ?_)
            · replace vc := vc.1 c_44
              refine sr_goto (tgt := 810) h dL_law_565 (by decide) ?_
              exact sr_sub (lv' := [(0, .ref a0), (1, .ref a1), (2, .ref a2), (3, .ref a3), (4, .int v4)]) [0, 1, 2, 3, 4] rfl vc
            · replace vc := vc.2 c_44
              refine sr_iconst (v := 0) h dL_law_563 (by decide) ?_
              exact sr_zret h dL_law_564 rfl hc_31.1 hc_31.2 vc
        · replace vc := vc.2 c_46
          refine sr_iconst (v := 0) h dL_law_546 (by decide) ?_
          exact sr_zret h dL_law_547 rfl hc_31.1 hc_31.2 vc
      · replace vc := vc'
        clear vc'
        exact st_out h (fun _ z => nomatch z) hc_31.1 hc_31.2 vc
    · replace vc := vc'
      clear vc'
      exact st_out h (fun _ z => nomatch z) hc_22.1 hc_22.2 vc
  · replace vc := vc'
    clear vc'
    exact st_out h (fun _ z => nomatch z) hc_9.1 hc_9.2 vc
set_option maxRecDepth 100000 in
set_option maxHeartbeats 4000000 in
theorem bkL_law_568 {κ : sp_K} {x : sp_X} {mc ms : Nat} {Rt : Option Value → sp_M → Prop} {Xt : String → sp_M → Prop} {μ : sp_M} {k n : Nat} {a0 : Nat} {a1 : Nat} {a2 : Nat} {a3 : Nat} {v4 : Int32} {L : Nat} {xs : Nat → Int32} (h : cxL_law κ x mc ms) (hS0 : sp_S κ x a0 L xs) (hL0 : L < 2 ^ 31) (hk : k ≤ mc ∧ n ≤ ms)
    (vc : (∃ j_1 : Nat, v4 + 1 = nI j_1 ∧ j_1 < L ∧ (∃ j_4 : Nat, v4 + 2 = nI j_4 ∧ j_4 < L ∧ (∃ mc_7 ms_8 : Nat, (k + mc_7 ≤ mc ∧ n + ms_8 ≤ ms) ∧ sp_m x.2.1 κ yL_apart wL_apart 8 137 mc_7 ms_8 [.ref a1, .int (xs j_1), .int (xs j_4), .ref a3] μ (fun v_10 μ_11 => ∃ v_13 : Int32, v_10 = some (.int v_13) ∧ (∃ j_14 : Nat, v4 + 1 = nI j_14 ∧ j_14 < L ∧ (∃ j_17 : Nat, v4 + 2 = nI j_17 ∧ j_17 < L ∧ (∃ mc_20 ms_21 : Nat, ((k + mc_7) + mc_20 ≤ mc ∧ (n + ms_8) + ms_21 ≤ ms) ∧ ∃ fs_25 : List Value, μ_11 a2 = some (.inr (3, fs_25)) ∧ sp_m x.2.1 κ yM_apart wM_apart 8 134 mc_20 ms_21 [.ref a2, .int (xs j_14), .int (xs j_17)] μ_11 (fun v_23 μ_24 => ∃ v_28 : Int32, v_23 = some (.int v_28) ∧ (∃ mc_29 ms_30 : Nat, ((k + mc_7 + mc_20) + mc_29 ≤ mc ∧ (n + ms_8 + ms_21) + ms_30 ≤ ms) ∧ ∃ fs_34 : List Value, μ_24 a2 = some (.inr (3, fs_34)) ∧ sp_m x.2.1 κ yM_thrown wM_thrown 0 0 mc_29 ms_30 [.ref a2] μ_24 (fun v_32 μ_33 => ∃ v_37 : Int32, v_32 = some (.int v_37) ∧ ((v_37 = v_13 → ((¬ v_13 = 0 → sp_w κ x (sp_F κ x Rt Xt mc ms) (k + mc_7 + mc_20 + mc_29) (n + ms_8 + ms_21 + ms_30) 810 [(0, .ref a0), (1, .ref a1), (2, .ref a2), (3, .ref a3), (4, .int v4)] [] μ_33) ∧ (v_13 = 0 → (∃ (N_38 : Nat) (f_39 : Nat → Int64), μ_33 a3 = some (sp_la κ N_38 f_39) ∧ ∃ j_41 : Nat, 0 = nI j_41 ∧ j_41 < N_38 ∧ (((lg_cmp (f_39 j_41) (Int32.toInt64 v_28)) = 0 → sp_w κ x (sp_F κ x Rt Xt mc ms) (k + mc_7 + mc_20 + mc_29) (n + ms_8 + ms_21 + ms_30) 810 [(0, .ref a0), (1, .ref a1), (2, .ref a2), (3, .ref a3), (4, .int v4)] [] μ_33) ∧ (¬ (lg_cmp (f_39 j_41) (Int32.toInt64 v_28)) = 0 → Rt (some (.int 0)) μ_33)))))) ∧ (¬ v_37 = v_13 → Rt (some (.int 0)) μ_33))) (fun E_47 μ_33 => Xt E_47 μ_33))) (fun E_48 μ_24 => Xt E_48 μ_24))))) (fun E_49 μ_11 => Xt E_49 μ_11))))) : sp_w κ x (sp_F κ x Rt Xt mc ms) k n 568 [(0, .ref a0), (1, .ref a1), (2, .ref a2), (3, .ref a3), (4, .int v4)] [] μ := by
  refine sr_aload_n h dL_law_568 rfl 1 rfl ?_
  refine sr_aload_n h dL_law_569 rfl 0 rfl ?_
  refine sr_iload h dL_law_570 4 rfl ?_
  refine sr_iconst (v := 1) h dL_law_572 (by decide) ?_
  refine sr_iadd h dL_law_573 ?_
  obtain ⟨j_1, hi_2, hj_3, vc⟩ := vc
  refine sr_sld h hS0 hL0 dL_law_574 hi_2 hj_3 ?_
  refine sr_aload_n h dL_law_575 rfl 0 rfl ?_
  refine sr_iload h dL_law_576 4 rfl ?_
  refine sr_iconst (v := 2) h dL_law_578 (by decide) ?_
  refine sr_iadd h dL_law_579 ?_
  obtain ⟨j_4, hi_5, hj_6, vc⟩ := vc
  refine sr_sld h hS0 hL0 dL_law_580 hi_5 hj_6 ?_
  refine sr_aload_n h dL_law_581 rfl 3 rfl ?_
  obtain ⟨mc_7, ms_8, hc_9, vc⟩ := vc
  refine sr_callSH (y := yL_apart) (n0 := 4) (As := [.ref a1, .int (xs j_1), .int (xs j_4), .ref a3]) (st := []) h (sp_gS kw_424 kw_425 kw_33 kw_426) rfl (by decide +kernel) ⟨Nat.le_of_ble_eq_true rfl, Nat.le_of_ble_eq_true rfl⟩ dL_law_582 rfl rfl (Nat.le_of_ble_eq_true rfl) hc_9 vc (fun v_10 μ_11 vc' => ?_) (fun E_49 μ_11 vc' => ?_)
  · replace vc := vc'
    clear vc'
    obtain ⟨v_13, rfl, vc⟩ := vc
    refine sr_istore (lv' := [(0, .ref a0), (1, .ref a1), (2, .ref a2), (3, .ref a3), (4, .int v4), (5, .int v_13)]) h dL_law_585 (by decide) rfl ?_
    refine sr_aload_n h dL_law_587 rfl 2 rfl ?_
    refine sr_aload_n h dL_law_588 rfl 0 rfl ?_
    refine sr_iload h dL_law_589 4 rfl ?_
    refine sr_iconst (v := 1) h dL_law_591 (by decide) ?_
    refine sr_iadd h dL_law_592 ?_
    obtain ⟨j_14, hi_15, hj_16, vc⟩ := vc
    refine sr_sld h hS0 hL0 dL_law_593 hi_15 hj_16 ?_
    refine sr_aload_n h dL_law_594 rfl 0 rfl ?_
    refine sr_iload h dL_law_595 4 rfl ?_
    refine sr_iconst (v := 2) h dL_law_597 (by decide) ?_
    refine sr_iadd h dL_law_598 ?_
    obtain ⟨j_17, hi_18, hj_19, vc⟩ := vc
    refine sr_sld h hS0 hL0 dL_law_599 hi_18 hj_19 ?_
    obtain ⟨mc_20, ms_21, hc_22, vc⟩ := vc
    obtain ⟨fs_25, ho_26, vc⟩ := vc
    refine sr_callVH (y := yM_apart) (n0 := 2) (As := [.int (xs j_14), .int (xs j_17)]) h (sp_gV kw_607 kw_608 kw_609 kw_35 kw_610) rfl (by decide +kernel) ⟨Nat.le_of_ble_eq_true rfl, Nat.le_of_ble_eq_true rfl⟩ (ci := 3) rfl dL_law_600 rfl rfl (Nat.le_of_ble_eq_true rfl) hc_22 ho_26 vc (fun v_23 μ_24 vc' => ?_) (fun E_48 μ_24 vc' => ?_)
    · replace vc := vc'
      clear vc'
      obtain ⟨v_28, rfl, vc⟩ := vc
      refine sr_istore (lv' := [(0, .ref a0), (1, .ref a1), (2, .ref a2), (3, .ref a3), (4, .int v4), (5, .int v_13), (6, .int v_28)]) h dL_law_603 (by decide) rfl ?_
      refine sr_aload_n h dL_law_605 rfl 2 rfl ?_
      obtain ⟨mc_29, ms_30, hc_31, vc⟩ := vc
      obtain ⟨fs_34, ho_35, vc⟩ := vc
      refine sr_callV (y := yM_thrown) (n0 := 0) (As := []) h (sp_gV kw_498 kw_499 kw_500 kw_35 kw_501) rfl (by decide +kernel) ⟨Nat.le_of_ble_eq_true rfl, Nat.le_of_ble_eq_true rfl⟩ (ci := 3) rfl dL_law_606 rfl rfl (Nat.le_of_ble_eq_true rfl) hc_31 ho_35 vc (fun v_32 μ_33 vc' => ?_) (fun E_47 μ_33 vc' => ?_)
      · replace vc := vc'
        clear vc'
        obtain ⟨v_37, rfl, vc⟩ := vc
        refine sr_iload h dL_law_609 5 rfl ?_
        refine sr_icmp_eq (tgt := 616) h dL_law_611 (by decide) (fun c_46 => ?_) (fun c_46 => ?_)
        · replace vc := vc.1 c_46
          refine sr_iload h dL_law_616 5 rfl ?_
          refine sr_if_ne (tgt := 633) h dL_law_618 (by decide) (fun c_45 => ?_) (fun c_45 => ?_)
          · replace vc := vc.1 c_45
            refine sr_goto (tgt := 810) h dL_law_633 (by decide) ?_
            exact sr_sub (lv' := [(0, .ref a0), (1, .ref a1), (2, .ref a2), (3, .ref a3), (4, .int v4)]) [0, 1, 2, 3, 4] rfl vc
          · replace vc := vc.2 c_45
            refine sr_aload_n h dL_law_621 rfl 3 rfl ?_
            refine sr_iconst (v := 0) h dL_law_622 (by decide) ?_
            obtain ⟨N_38, f_39, ho_40, vc⟩ := vc
            obtain ⟨j_41, hi_42, hj_43, vc⟩ := vc
            refine sr_lald h dL_law_623 ho_40 hi_42 hj_43 ?_
            refine sr_iload h dL_law_624 6 rfl ?_
            refine sr_i2l h dL_law_626 ?_
            refine sr_lcmp h dL_law_627 ?_
            refine sr_if_eq (tgt := 633) h dL_law_628 (by decide) (fun c_44 => ?_) (fun c_44 => ?_)
            · replace vc := vc.1 c_44
              refine sr_goto (tgt := 810) h dL_law_633 (by decide) ?_
              exact sr_sub (lv' := [(0, .ref a0), (1, .ref a1), (2, .ref a2), (3, .ref a3), (4, .int v4)]) [0, 1, 2, 3, 4] rfl vc
            · replace vc := vc.2 c_44
              refine sr_iconst (v := 0) h dL_law_631 (by decide) ?_
              exact sr_zret h dL_law_632 rfl hc_31.1 hc_31.2 vc
        · replace vc := vc.2 c_46
          refine sr_iconst (v := 0) h dL_law_614 (by decide) ?_
          exact sr_zret h dL_law_615 rfl hc_31.1 hc_31.2 vc
      · replace vc := vc'
        clear vc'
        exact st_out h (fun _ z => nomatch z) hc_31.1 hc_31.2 vc
    · replace vc := vc'
      clear vc'
      exact st_out h (fun _ z => nomatch z) hc_22.1 hc_22.2 vc
  · replace vc := vc'
    clear vc'
    exact st_out h (fun _ z => nomatch z) hc_9.1 hc_9.2 vc
set_option maxRecDepth 100000 in
set_option maxHeartbeats 4000000 in
theorem bkL_law_636 {κ : sp_K} {x : sp_X} {mc ms : Nat} {Rt : Option Value → sp_M → Prop} {Xt : String → sp_M → Prop} {μ : sp_M} {k n : Nat} {a0 : Nat} {a1 : Nat} {a2 : Nat} {a3 : Nat} {v4 : Int32} {L : Nat} {xs : Nat → Int32} (h : cxL_law κ x mc ms) (hS0 : sp_S κ x a0 L xs) (hL0 : L < 2 ^ 31) (hk : k ≤ mc ∧ n ≤ ms)
    (vc : (∃ j_1 : Nat, v4 + 1 = nI j_1 ∧ j_1 < L ∧ (∃ j_4 : Nat, v4 + 2 = nI j_4 ∧ j_4 < L ∧ (∃ j_7 : Nat, v4 + 3 = nI j_7 ∧ j_7 < L ∧ (∃ mc_10 ms_11 : Nat, (k + mc_10 ≤ mc ∧ n + ms_11 ≤ ms) ∧ sp_m x.2.1 κ yL_latest wL_latest 8 142 mc_10 ms_11 [.ref a1, .int (xs j_1), .int (xs j_4), .int (xs j_7), .ref a3] μ (fun v_13 μ_14 => ∃ v_16 : Int32, v_13 = some (.int v_16) ∧ (∃ j_17 : Nat, v4 + 1 = nI j_17 ∧ j_17 < L ∧ (∃ j_20 : Nat, v4 + 2 = nI j_20 ∧ j_20 < L ∧ (∃ j_23 : Nat, v4 + 3 = nI j_23 ∧ j_23 < L ∧ (∃ mc_26 ms_27 : Nat, ((k + mc_10) + mc_26 ≤ mc ∧ (n + ms_11) + ms_27 ≤ ms) ∧ ∃ fs_31 : List Value, μ_14 a2 = some (.inr (3, fs_31)) ∧ sp_m x.2.1 κ yM_latest wM_latest 8 134 mc_26 ms_27 [.ref a2, .int (xs j_17), .int (xs j_20), .int (xs j_23)] μ_14 (fun v_29 μ_30 => ∃ v_34 : Int32, v_29 = some (.int v_34) ∧ (∃ mc_35 ms_36 : Nat, ((k + mc_10 + mc_26) + mc_35 ≤ mc ∧ (n + ms_11 + ms_27) + ms_36 ≤ ms) ∧ ∃ fs_40 : List Value, μ_30 a2 = some (.inr (3, fs_40)) ∧ sp_m x.2.1 κ yM_thrown wM_thrown 0 0 mc_35 ms_36 [.ref a2] μ_30 (fun v_38 μ_39 => ∃ v_43 : Int32, v_38 = some (.int v_43) ∧ ((v_43 = v_16 → ((¬ v_16 = 0 → sp_w κ x (sp_F κ x Rt Xt mc ms) (k + mc_10 + mc_26 + mc_35) (n + ms_11 + ms_27 + ms_36) 810 [(0, .ref a0), (1, .ref a1), (2, .ref a2), (3, .ref a3), (4, .int v4)] [] μ_39) ∧ (v_16 = 0 → (∃ (N_44 : Nat) (f_45 : Nat → Int64), μ_39 a3 = some (sp_la κ N_44 f_45) ∧ ∃ j_47 : Nat, 0 = nI j_47 ∧ j_47 < N_44 ∧ (((lg_cmp (f_45 j_47) (Int32.toInt64 v_34)) = 0 → sp_w κ x (sp_F κ x Rt Xt mc ms) (k + mc_10 + mc_26 + mc_35) (n + ms_11 + ms_27 + ms_36) 810 [(0, .ref a0), (1, .ref a1), (2, .ref a2), (3, .ref a3), (4, .int v4)] [] μ_39) ∧ (¬ (lg_cmp (f_45 j_47) (Int32.toInt64 v_34)) = 0 → Rt (some (.int 0)) μ_39)))))) ∧ (¬ v_43 = v_16 → Rt (some (.int 0)) μ_39))) (fun E_53 μ_39 => Xt E_53 μ_39))) (fun E_54 μ_30 => Xt E_54 μ_30)))))) (fun E_55 μ_14 => Xt E_55 μ_14)))))) : sp_w κ x (sp_F κ x Rt Xt mc ms) k n 636 [(0, .ref a0), (1, .ref a1), (2, .ref a2), (3, .ref a3), (4, .int v4)] [] μ := by
  refine sr_aload_n h dL_law_636 rfl 1 rfl ?_
  refine sr_aload_n h dL_law_637 rfl 0 rfl ?_
  refine sr_iload h dL_law_638 4 rfl ?_
  refine sr_iconst (v := 1) h dL_law_640 (by decide) ?_
  refine sr_iadd h dL_law_641 ?_
  obtain ⟨j_1, hi_2, hj_3, vc⟩ := vc
  refine sr_sld h hS0 hL0 dL_law_642 hi_2 hj_3 ?_
  refine sr_aload_n h dL_law_643 rfl 0 rfl ?_
  refine sr_iload h dL_law_644 4 rfl ?_
  refine sr_iconst (v := 2) h dL_law_646 (by decide) ?_
  refine sr_iadd h dL_law_647 ?_
  obtain ⟨j_4, hi_5, hj_6, vc⟩ := vc
  refine sr_sld h hS0 hL0 dL_law_648 hi_5 hj_6 ?_
  refine sr_aload_n h dL_law_649 rfl 0 rfl ?_
  refine sr_iload h dL_law_650 4 rfl ?_
  refine sr_iconst (v := 3) h dL_law_652 (by decide) ?_
  refine sr_iadd h dL_law_653 ?_
  obtain ⟨j_7, hi_8, hj_9, vc⟩ := vc
  refine sr_sld h hS0 hL0 dL_law_654 hi_8 hj_9 ?_
  refine sr_aload_n h dL_law_655 rfl 3 rfl ?_
  obtain ⟨mc_10, ms_11, hc_12, vc⟩ := vc
  refine sr_callSH (y := yL_latest) (n0 := 5) (As := [.ref a1, .int (xs j_1), .int (xs j_4), .int (xs j_7), .ref a3]) (st := []) h (sp_gS kw_431 kw_432 kw_33 kw_433) rfl (by decide +kernel) ⟨Nat.le_of_ble_eq_true rfl, Nat.le_of_ble_eq_true rfl⟩ dL_law_656 rfl rfl (Nat.le_of_ble_eq_true rfl) hc_12 vc (fun v_13 μ_14 vc' => ?_) (fun E_55 μ_14 vc' => ?_)
  · replace vc := vc'
    clear vc'
    obtain ⟨v_16, rfl, vc⟩ := vc
    refine sr_istore (lv' := [(0, .ref a0), (1, .ref a1), (2, .ref a2), (3, .ref a3), (4, .int v4), (5, .int v_16)]) h dL_law_659 (by decide) rfl ?_
    refine sr_aload_n h dL_law_661 rfl 2 rfl ?_
    refine sr_aload_n h dL_law_662 rfl 0 rfl ?_
    refine sr_iload h dL_law_663 4 rfl ?_
    refine sr_iconst (v := 1) h dL_law_665 (by decide) ?_
    refine sr_iadd h dL_law_666 ?_
    obtain ⟨j_17, hi_18, hj_19, vc⟩ := vc
    refine sr_sld h hS0 hL0 dL_law_667 hi_18 hj_19 ?_
    refine sr_aload_n h dL_law_668 rfl 0 rfl ?_
    refine sr_iload h dL_law_669 4 rfl ?_
    refine sr_iconst (v := 2) h dL_law_671 (by decide) ?_
    refine sr_iadd h dL_law_672 ?_
    obtain ⟨j_20, hi_21, hj_22, vc⟩ := vc
    refine sr_sld h hS0 hL0 dL_law_673 hi_21 hj_22 ?_
    refine sr_aload_n h dL_law_674 rfl 0 rfl ?_
    refine sr_iload h dL_law_675 4 rfl ?_
    refine sr_iconst (v := 3) h dL_law_677 (by decide) ?_
    refine sr_iadd h dL_law_678 ?_
    obtain ⟨j_23, hi_24, hj_25, vc⟩ := vc
    refine sr_sld h hS0 hL0 dL_law_679 hi_24 hj_25 ?_
    obtain ⟨mc_26, ms_27, hc_28, vc⟩ := vc
    obtain ⟨fs_31, ho_32, vc⟩ := vc
    refine sr_callVH (y := yM_latest) (n0 := 3) (As := [.int (xs j_17), .int (xs j_20), .int (xs j_23)]) h (sp_gV kw_615 kw_616 kw_617 kw_35 kw_618) rfl (by decide +kernel) ⟨Nat.le_of_ble_eq_true rfl, Nat.le_of_ble_eq_true rfl⟩ (ci := 3) rfl dL_law_680 rfl rfl (Nat.le_of_ble_eq_true rfl) hc_28 ho_32 vc (fun v_29 μ_30 vc' => ?_) (fun E_54 μ_30 vc' => ?_)
    · replace vc := vc'
      clear vc'
      obtain ⟨v_34, rfl, vc⟩ := vc
      refine sr_istore (lv' := [(0, .ref a0), (1, .ref a1), (2, .ref a2), (3, .ref a3), (4, .int v4), (5, .int v_16), (6, .int v_34)]) h dL_law_683 (by decide) rfl ?_
      refine sr_aload_n h dL_law_685 rfl 2 rfl ?_
      obtain ⟨mc_35, ms_36, hc_37, vc⟩ := vc
      obtain ⟨fs_40, ho_41, vc⟩ := vc
      refine sr_callV (y := yM_thrown) (n0 := 0) (As := []) h (sp_gV kw_498 kw_499 kw_500 kw_35 kw_501) rfl (by decide +kernel) ⟨Nat.le_of_ble_eq_true rfl, Nat.le_of_ble_eq_true rfl⟩ (ci := 3) rfl dL_law_686 rfl rfl (Nat.le_of_ble_eq_true rfl) hc_37 ho_41 vc (fun v_38 μ_39 vc' => ?_) (fun E_53 μ_39 vc' => ?_)
      · replace vc := vc'
        clear vc'
        obtain ⟨v_43, rfl, vc⟩ := vc
        refine sr_iload h dL_law_689 5 rfl ?_
        refine sr_icmp_eq (tgt := 696) h dL_law_691 (by decide) (fun c_52 => ?_) (fun c_52 => ?_)
        · replace vc := vc.1 c_52
          refine sr_iload h dL_law_696 5 rfl ?_
          refine sr_if_ne (tgt := 713) h dL_law_698 (by decide) (fun c_51 => ?_) (fun c_51 => ?_)
          · replace vc := vc.1 c_51
            refine sr_goto (tgt := 810) h dL_law_713 (by decide) ?_
            exact sr_sub (lv' := [(0, .ref a0), (1, .ref a1), (2, .ref a2), (3, .ref a3), (4, .int v4)]) [0, 1, 2, 3, 4] rfl vc
          · replace vc := vc.2 c_51
            refine sr_aload_n h dL_law_701 rfl 3 rfl ?_
            refine sr_iconst (v := 0) h dL_law_702 (by decide) ?_
            obtain ⟨N_44, f_45, ho_46, vc⟩ := vc
            obtain ⟨j_47, hi_48, hj_49, vc⟩ := vc
            refine sr_lald h dL_law_703 ho_46 hi_48 hj_49 ?_
            refine sr_iload h dL_law_704 6 rfl ?_
            refine sr_i2l h dL_law_706 ?_
            refine sr_lcmp h dL_law_707 ?_
            refine sr_if_eq (tgt := 713) h dL_law_708 (by decide) (fun c_50 => ?_) (fun c_50 => ?_)
            · replace vc := vc.1 c_50
              refine sr_goto (tgt := 810) h dL_law_713 (by decide) ?_
              exact sr_sub (lv' := [(0, .ref a0), (1, .ref a1), (2, .ref a2), (3, .ref a3), (4, .int v4)]) [0, 1, 2, 3, 4] rfl vc
            · replace vc := vc.2 c_50
              refine sr_iconst (v := 0) h dL_law_711 (by decide) ?_
              exact sr_zret h dL_law_712 rfl hc_37.1 hc_37.2 vc
        · replace vc := vc.2 c_52
          refine sr_iconst (v := 0) h dL_law_694 (by decide) ?_
          exact sr_zret h dL_law_695 rfl hc_37.1 hc_37.2 vc
      · replace vc := vc'
        clear vc'
        exact st_out h (fun _ z => nomatch z) hc_37.1 hc_37.2 vc
    · replace vc := vc'
      clear vc'
      exact st_out h (fun _ z => nomatch z) hc_28.1 hc_28.2 vc
  · replace vc := vc'
    clear vc'
    exact st_out h (fun _ z => nomatch z) hc_12.1 hc_12.2 vc
set_option maxRecDepth 100000 in
set_option maxHeartbeats 4000000 in
theorem bkL_law_716 {κ : sp_K} {x : sp_X} {mc ms : Nat} {Rt : Option Value → sp_M → Prop} {Xt : String → sp_M → Prop} {μ : sp_M} {k n : Nat} {a0 : Nat} {a1 : Nat} {a2 : Nat} {a3 : Nat} {v4 : Int32} {L : Nat} {xs : Nat → Int32} (h : cxL_law κ x mc ms) (hS0 : sp_S κ x a0 L xs) (hL0 : L < 2 ^ 31) (hk : k ≤ mc ∧ n ≤ ms)
    (vc : (∃ j_1 : Nat, v4 + 1 = nI j_1 ∧ j_1 < L ∧ (∃ mc_4 ms_5 : Nat, (k + mc_4 ≤ mc ∧ n + ms_5 ≤ ms) ∧ sp_m x.2.1 κ yL_head wL_head 7 116 mc_4 ms_5 [.ref a1, .int (xs j_1), .ref a3] μ (fun v_7 μ_8 => ∃ v_10 : Int32, v_7 = some (.int v_10) ∧ (∃ j_11 : Nat, v4 + 1 = nI j_11 ∧ j_11 < L ∧ (∃ mc_14 ms_15 : Nat, ((k + mc_4) + mc_14 ≤ mc ∧ (n + ms_5) + ms_15 ≤ ms) ∧ ∃ fs_19 : List Value, μ_8 a2 = some (.inr (3, fs_19)) ∧ sp_m x.2.1 κ yM_head wM_head 8 132 mc_14 ms_15 [.ref a2, .int (xs j_11)] μ_8 (fun v_17 μ_18 => ∃ v_22 : Int32, v_17 = some (.int v_22) ∧ (∃ mc_23 ms_24 : Nat, ((k + mc_4 + mc_14) + mc_23 ≤ mc ∧ (n + ms_5 + ms_15) + ms_24 ≤ ms) ∧ ∃ fs_28 : List Value, μ_18 a2 = some (.inr (3, fs_28)) ∧ sp_m x.2.1 κ yM_thrown wM_thrown 0 0 mc_23 ms_24 [.ref a2] μ_18 (fun v_26 μ_27 => ∃ v_31 : Int32, v_26 = some (.int v_31) ∧ ((v_31 = v_10 → ((¬ v_10 = 0 → sp_w κ x (sp_F κ x Rt Xt mc ms) (k + mc_4 + mc_14 + mc_23) (n + ms_5 + ms_15 + ms_24) 810 [(0, .ref a0), (1, .ref a1), (2, .ref a2), (3, .ref a3), (4, .int v4)] [] μ_27) ∧ (v_10 = 0 → (∃ (N_32 : Nat) (f_33 : Nat → Int64), μ_27 a3 = some (sp_la κ N_32 f_33) ∧ ∃ j_35 : Nat, 0 = nI j_35 ∧ j_35 < N_32 ∧ (((lg_cmp (f_33 j_35) (Int32.toInt64 v_22)) = 0 → sp_w κ x (sp_F κ x Rt Xt mc ms) (k + mc_4 + mc_14 + mc_23) (n + ms_5 + ms_15 + ms_24) 810 [(0, .ref a0), (1, .ref a1), (2, .ref a2), (3, .ref a3), (4, .int v4)] [] μ_27) ∧ (¬ (lg_cmp (f_33 j_35) (Int32.toInt64 v_22)) = 0 → Rt (some (.int 0)) μ_27)))))) ∧ (¬ v_31 = v_10 → Rt (some (.int 0)) μ_27))) (fun E_41 μ_27 => Xt E_41 μ_27))) (fun E_42 μ_18 => Xt E_42 μ_18)))) (fun E_43 μ_8 => Xt E_43 μ_8)))) : sp_w κ x (sp_F κ x Rt Xt mc ms) k n 716 [(0, .ref a0), (1, .ref a1), (2, .ref a2), (3, .ref a3), (4, .int v4)] [] μ := by
  refine sr_aload_n h dL_law_716 rfl 1 rfl ?_
  refine sr_aload_n h dL_law_717 rfl 0 rfl ?_
  refine sr_iload h dL_law_718 4 rfl ?_
  refine sr_iconst (v := 1) h dL_law_720 (by decide) ?_
  refine sr_iadd h dL_law_721 ?_
  obtain ⟨j_1, hi_2, hj_3, vc⟩ := vc
  refine sr_sld h hS0 hL0 dL_law_722 hi_2 hj_3 ?_
  refine sr_aload_n h dL_law_723 rfl 3 rfl ?_
  obtain ⟨mc_4, ms_5, hc_6, vc⟩ := vc
  refine sr_callSH (y := yL_head) (n0 := 3) (As := [.ref a1, .int (xs j_1), .ref a3]) (st := []) h (sp_gS kw_438 kw_439 kw_33 kw_440) rfl (by decide +kernel) ⟨Nat.le_of_ble_eq_true rfl, Nat.le_of_ble_eq_true rfl⟩ dL_law_724 rfl rfl (Nat.le_of_ble_eq_true rfl) hc_6 vc (fun v_7 μ_8 vc' => ?_) (fun E_43 μ_8 vc' => ?_)
  · replace vc := vc'
    clear vc'
    obtain ⟨v_10, rfl, vc⟩ := vc
    refine sr_istore (lv' := [(0, .ref a0), (1, .ref a1), (2, .ref a2), (3, .ref a3), (4, .int v4), (5, .int v_10)]) h dL_law_727 (by decide) rfl ?_
    refine sr_aload_n h dL_law_729 rfl 2 rfl ?_
    refine sr_aload_n h dL_law_730 rfl 0 rfl ?_
    refine sr_iload h dL_law_731 4 rfl ?_
    refine sr_iconst (v := 1) h dL_law_733 (by decide) ?_
    refine sr_iadd h dL_law_734 ?_
    obtain ⟨j_11, hi_12, hj_13, vc⟩ := vc
    refine sr_sld h hS0 hL0 dL_law_735 hi_12 hj_13 ?_
    obtain ⟨mc_14, ms_15, hc_16, vc⟩ := vc
    obtain ⟨fs_19, ho_20, vc⟩ := vc
    refine sr_callVH (y := yM_head) (n0 := 1) (As := [.int (xs j_11)]) h (sp_gV kw_624 kw_625 kw_626 kw_35 kw_627) rfl (by decide +kernel) ⟨Nat.le_of_ble_eq_true rfl, Nat.le_of_ble_eq_true rfl⟩ (ci := 3) rfl dL_law_736 rfl rfl (Nat.le_of_ble_eq_true rfl) hc_16 ho_20 vc (fun v_17 μ_18 vc' => ?_) (fun E_42 μ_18 vc' => ?_)
    · replace vc := vc'
      clear vc'
      obtain ⟨v_22, rfl, vc⟩ := vc
      refine sr_istore (lv' := [(0, .ref a0), (1, .ref a1), (2, .ref a2), (3, .ref a3), (4, .int v4), (5, .int v_10), (6, .int v_22)]) h dL_law_739 (by decide) rfl ?_
      refine sr_aload_n h dL_law_741 rfl 2 rfl ?_
      obtain ⟨mc_23, ms_24, hc_25, vc⟩ := vc
      obtain ⟨fs_28, ho_29, vc⟩ := vc
      refine sr_callV (y := yM_thrown) (n0 := 0) (As := []) h (sp_gV kw_498 kw_499 kw_500 kw_35 kw_501) rfl (by decide +kernel) ⟨Nat.le_of_ble_eq_true rfl, Nat.le_of_ble_eq_true rfl⟩ (ci := 3) rfl dL_law_742 rfl rfl (Nat.le_of_ble_eq_true rfl) hc_25 ho_29 vc (fun v_26 μ_27 vc' => ?_) (fun E_41 μ_27 vc' => ?_)
      · replace vc := vc'
        clear vc'
        obtain ⟨v_31, rfl, vc⟩ := vc
        refine sr_iload h dL_law_745 5 rfl ?_
        refine sr_icmp_eq (tgt := 752) h dL_law_747 (by decide) (fun c_40 => ?_) (fun c_40 => ?_)
        · replace vc := vc.1 c_40
          refine sr_iload h dL_law_752 5 rfl ?_
          refine sr_if_ne (tgt := 769) h dL_law_754 (by decide) (fun c_39 => ?_) (fun c_39 => ?_)
          · replace vc := vc.1 c_39
            refine sr_goto (tgt := 810) h dL_law_769 (by decide) ?_
            exact sr_sub (lv' := [(0, .ref a0), (1, .ref a1), (2, .ref a2), (3, .ref a3), (4, .int v4)]) [0, 1, 2, 3, 4] rfl vc
          · replace vc := vc.2 c_39
            refine sr_aload_n h dL_law_757 rfl 3 rfl ?_
            refine sr_iconst (v := 0) h dL_law_758 (by decide) ?_
            obtain ⟨N_32, f_33, ho_34, vc⟩ := vc
            obtain ⟨j_35, hi_36, hj_37, vc⟩ := vc
            refine sr_lald h dL_law_759 ho_34 hi_36 hj_37 ?_
            refine sr_iload h dL_law_760 6 rfl ?_
            refine sr_i2l h dL_law_762 ?_
            refine sr_lcmp h dL_law_763 ?_
            refine sr_if_eq (tgt := 769) h dL_law_764 (by decide) (fun c_38 => ?_) (fun c_38 => ?_)
            · replace vc := vc.1 c_38
              refine sr_goto (tgt := 810) h dL_law_769 (by decide) ?_
              exact sr_sub (lv' := [(0, .ref a0), (1, .ref a1), (2, .ref a2), (3, .ref a3), (4, .int v4)]) [0, 1, 2, 3, 4] rfl vc
            · replace vc := vc.2 c_38
              refine sr_iconst (v := 0) h dL_law_767 (by decide) ?_
              exact sr_zret h dL_law_768 rfl hc_25.1 hc_25.2 vc
        · replace vc := vc.2 c_40
          refine sr_iconst (v := 0) h dL_law_750 (by decide) ?_
          exact sr_zret h dL_law_751 rfl hc_25.1 hc_25.2 vc
      · replace vc := vc'
        clear vc'
        exact st_out h (fun _ z => nomatch z) hc_25.1 hc_25.2 vc
    · replace vc := vc'
      clear vc'
      exact st_out h (fun _ z => nomatch z) hc_16.1 hc_16.2 vc
  · replace vc := vc'
    clear vc'
    exact st_out h (fun _ z => nomatch z) hc_6.1 hc_6.2 vc
set_option maxRecDepth 100000 in
set_option maxHeartbeats 4000000 in
theorem bkL_law_772 {κ : sp_K} {x : sp_X} {mc ms : Nat} {Rt : Option Value → sp_M → Prop} {Xt : String → sp_M → Prop} {μ : sp_M} {k n : Nat} {a0 : Nat} {a1 : Nat} {a2 : Nat} {a3 : Nat} {v4 : Int32} {L : Nat} {xs : Nat → Int32} (h : cxL_law κ x mc ms) (hS0 : sp_S κ x a0 L xs) (hL0 : L < 2 ^ 31) (hk : k ≤ mc ∧ n ≤ ms)
    (vc : (∃ mc_1 ms_2 : Nat, (k + mc_1 ≤ mc ∧ n + ms_2 ≤ ms) ∧ ∃ fs_6 : List Value, μ a1 = some (.inr (2, fs_6)) ∧ sp_m x.2.1 κ yE_critical wE_critical 1 22 mc_1 ms_2 [.ref a1] μ (fun v_4 μ_5 => ∃ v_9 : Int32, v_4 = some (.int v_9) ∧ (∃ mc_10 ms_11 : Nat, ((k + mc_1) + mc_10 ≤ mc ∧ (n + ms_2) + ms_11 ≤ ms) ∧ ∃ fs_15 : List Value, μ_5 a2 = some (.inr (3, fs_15)) ∧ sp_m x.2.1 κ yM_critical wM_critical 3 67 mc_10 ms_11 [.ref a2] μ_5 (fun v_13 μ_14 => ∃ v_18 : Int32, v_13 = some (.int v_18) ∧ ((v_9 = v_18 → sp_w κ x (sp_F κ x Rt Xt mc ms) (k + mc_1 + mc_10) (n + ms_2 + ms_11) 810 [(0, .ref a0), (1, .ref a1), (2, .ref a2), (3, .ref a3), (4, .int v4)] [] μ_14) ∧ (¬ v_9 = v_18 → Rt (some (.int 0)) μ_14))) (fun E_20 μ_14 => Xt E_20 μ_14))) (fun E_21 μ_5 => Xt E_21 μ_5))) : sp_w κ x (sp_F κ x Rt Xt mc ms) k n 772 [(0, .ref a0), (1, .ref a1), (2, .ref a2), (3, .ref a3), (4, .int v4)] [] μ := by
  refine sr_aload_n h dL_law_772 rfl 1 rfl ?_
  obtain ⟨mc_1, ms_2, hc_3, vc⟩ := vc
  obtain ⟨fs_6, ho_7, vc⟩ := vc
  refine sr_callV (y := yE_critical) (n0 := 0) (As := []) h (sp_gV kw_91 kw_92 kw_93 kw_34 kw_94) rfl (by decide +kernel) ⟨Nat.le_of_ble_eq_true rfl, Nat.le_of_ble_eq_true rfl⟩ (ci := 2) rfl dL_law_773 rfl rfl (Nat.le_of_ble_eq_true rfl) hc_3 ho_7 vc (fun v_4 μ_5 vc' => ?_) (fun E_21 μ_5 vc' => ?_)
  · replace vc := vc'
    clear vc'
    obtain ⟨v_9, rfl, vc⟩ := vc
    refine sr_aload_n h dL_law_776 rfl 2 rfl ?_
    obtain ⟨mc_10, ms_11, hc_12, vc⟩ := vc
    obtain ⟨fs_15, ho_16, vc⟩ := vc
    refine sr_callV (y := yM_critical) (n0 := 0) (As := []) h (sp_gV kw_632 kw_633 kw_634 kw_35 kw_635) rfl (by decide +kernel) ⟨Nat.le_of_ble_eq_true rfl, Nat.le_of_ble_eq_true rfl⟩ (ci := 3) rfl dL_law_777 rfl rfl (Nat.le_of_ble_eq_true rfl) hc_12 ho_16 vc (fun v_13 μ_14 vc' => ?_) (fun E_20 μ_14 vc' => ?_)
    · replace vc := vc'
      clear vc'
      obtain ⟨v_18, rfl, vc⟩ := vc
      refine sr_icmp_eq (tgt := 810) h dL_law_780 (by decide) (fun c_19 => ?_) (fun c_19 => ?_)
      · replace vc := vc.1 c_19
        exact vc
      · replace vc := vc.2 c_19
        refine sr_iconst (v := 0) h dL_law_783 (by decide) ?_
        exact sr_zret h dL_law_784 rfl hc_12.1 hc_12.2 vc
    · replace vc := vc'
      clear vc'
      exact st_out h (fun _ z => nomatch z) hc_12.1 hc_12.2 vc
  · replace vc := vc'
    clear vc'
    exact st_out h (fun _ z => nomatch z) hc_3.1 hc_3.2 vc
set_option maxRecDepth 100000 in
set_option maxHeartbeats 4000000 in
theorem bkL_law_785 {κ : sp_K} {x : sp_X} {mc ms : Nat} {Rt : Option Value → sp_M → Prop} {Xt : String → sp_M → Prop} {μ : sp_M} {k n : Nat} {a0 : Nat} {a1 : Nat} {a2 : Nat} {a3 : Nat} {v4 : Int32} {L : Nat} {xs : Nat → Int32} (h : cxL_law κ x mc ms) (hS0 : sp_S κ x a0 L xs) (hL0 : L < 2 ^ 31) (hk : k ≤ mc ∧ n ≤ ms)
    (vc : (∃ j_1 : Nat, v4 + 1 = nI j_1 ∧ j_1 < L ∧ (∃ mc_4 ms_5 : Nat, (k + mc_4 ≤ mc ∧ n + ms_5 ≤ ms) ∧ ∃ fs_9 : List Value, μ a1 = some (.inr (2, fs_9)) ∧ sp_m x.2.1 κ yE_base wE_base 2 42 mc_4 ms_5 [.ref a1, .int (xs j_1)] μ (fun v_7 μ_8 => ∃ v_12 : Int32, v_7 = some (.int v_12) ∧ (∃ j_13 : Nat, v4 + 1 = nI j_13 ∧ j_13 < L ∧ (∃ mc_16 ms_17 : Nat, ((k + mc_4) + mc_16 ≤ mc ∧ (n + ms_5) + ms_17 ≤ ms) ∧ ∃ fs_21 : List Value, μ_8 a2 = some (.inr (3, fs_21)) ∧ sp_m x.2.1 κ yM_base wM_base 3 67 mc_16 ms_17 [.ref a2, .int (xs j_13)] μ_8 (fun v_19 μ_20 => ∃ v_24 : Int32, v_19 = some (.int v_24) ∧ ((v_12 = v_24 → sp_w κ x (sp_F κ x Rt Xt mc ms) (k + mc_4 + mc_16) (n + ms_5 + ms_17) 810 [(0, .ref a0), (1, .ref a1), (2, .ref a2), (3, .ref a3), (4, .int v4)] [] μ_20) ∧ (¬ v_12 = v_24 → Rt (some (.int 0)) μ_20))) (fun E_26 μ_20 => Xt E_26 μ_20)))) (fun E_27 μ_8 => Xt E_27 μ_8)))) : sp_w κ x (sp_F κ x Rt Xt mc ms) k n 785 [(0, .ref a0), (1, .ref a1), (2, .ref a2), (3, .ref a3), (4, .int v4)] [] μ := by
  refine sr_aload_n h dL_law_785 rfl 1 rfl ?_
  refine sr_aload_n h dL_law_786 rfl 0 rfl ?_
  refine sr_iload h dL_law_787 4 rfl ?_
  refine sr_iconst (v := 1) h dL_law_789 (by decide) ?_
  refine sr_iadd h dL_law_790 ?_
  obtain ⟨j_1, hi_2, hj_3, vc⟩ := vc
  refine sr_sld h hS0 hL0 dL_law_791 hi_2 hj_3 ?_
  obtain ⟨mc_4, ms_5, hc_6, vc⟩ := vc
  obtain ⟨fs_9, ho_10, vc⟩ := vc
  refine sr_callV (y := yE_base) (n0 := 1) (As := [.int (xs j_1)]) h (sp_gV kw_102 kw_103 kw_104 kw_34 kw_105) rfl (by decide +kernel) ⟨Nat.le_of_ble_eq_true rfl, Nat.le_of_ble_eq_true rfl⟩ (ci := 2) rfl dL_law_792 rfl rfl (Nat.le_of_ble_eq_true rfl) hc_6 ho_10 vc (fun v_7 μ_8 vc' => ?_) (fun E_27 μ_8 vc' => ?_)
  · replace vc := vc'
    clear vc'
    obtain ⟨v_12, rfl, vc⟩ := vc
    refine sr_aload_n h dL_law_795 rfl 2 rfl ?_
    refine sr_aload_n h dL_law_796 rfl 0 rfl ?_
    refine sr_iload h dL_law_797 4 rfl ?_
    refine sr_iconst (v := 1) h dL_law_799 (by decide) ?_
    refine sr_iadd h dL_law_800 ?_
    obtain ⟨j_13, hi_14, hj_15, vc⟩ := vc
    refine sr_sld h hS0 hL0 dL_law_801 hi_14 hj_15 ?_
    obtain ⟨mc_16, ms_17, hc_18, vc⟩ := vc
    obtain ⟨fs_21, ho_22, vc⟩ := vc
    refine sr_callV (y := yM_base) (n0 := 1) (As := [.int (xs j_13)]) h (sp_gV kw_644 kw_645 kw_646 kw_35 kw_647) rfl (by decide +kernel) ⟨Nat.le_of_ble_eq_true rfl, Nat.le_of_ble_eq_true rfl⟩ (ci := 3) rfl dL_law_802 rfl rfl (Nat.le_of_ble_eq_true rfl) hc_18 ho_22 vc (fun v_19 μ_20 vc' => ?_) (fun E_26 μ_20 vc' => ?_)
    · replace vc := vc'
      clear vc'
      obtain ⟨v_24, rfl, vc⟩ := vc
      refine sr_icmp_eq (tgt := 810) h dL_law_805 (by decide) (fun c_25 => ?_) (fun c_25 => ?_)
      · replace vc := vc.1 c_25
        exact vc
      · replace vc := vc.2 c_25
        refine sr_iconst (v := 0) h dL_law_808 (by decide) ?_
        exact sr_zret h dL_law_809 rfl hc_18.1 hc_18.2 vc
    · replace vc := vc'
      clear vc'
      exact st_out h (fun _ z => nomatch z) hc_18.1 hc_18.2 vc
  · replace vc := vc'
    clear vc'
    exact st_out h (fun _ z => nomatch z) hc_6.1 hc_6.2 vc
set_option maxRecDepth 100000 in
set_option maxHeartbeats 4000000 in
theorem bkL_law_810 {κ : sp_K} {x : sp_X} {mc ms : Nat} {Rt : Option Value → sp_M → Prop} {Xt : String → sp_M → Prop} {μ : sp_M} {k n : Nat} {a0 : Nat} {a1 : Nat} {a2 : Nat} {a3 : Nat} {v4 : Int32} {L : Nat} {xs : Nat → Int32} (h : cxL_law κ x mc ms) (hS0 : sp_S κ x a0 L xs) (hL0 : L < 2 ^ 31) (hk : k ≤ mc ∧ n ≤ ms)
    (vc : sp_w κ x (sp_F κ x Rt Xt mc ms) k n 23 [(0, .ref a0), (1, .ref a1), (2, .ref a2), (3, .ref a3), (4, .int (v4 + 4))] [] μ) : sp_w κ x (sp_F κ x Rt Xt mc ms) k n 810 [(0, .ref a0), (1, .ref a1), (2, .ref a2), (3, .ref a3), (4, .int v4)] [] μ := by
  refine sr_iinc (u := v4 + 4) (lv' := [(0, .ref a0), (1, .ref a1), (2, .ref a2), (3, .ref a3), (4, .int (v4 + 4))]) h dL_law_810 4 rfl rfl (by decide) rfl ?_
  refine sr_goto (tgt := 23) h dL_law_813 (by decide) ?_
  exact vc
