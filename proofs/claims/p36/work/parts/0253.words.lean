/-! words of the tables, by their places -/
theorem tw_548 : (Jvm.Cond.methodLink "UnitKitchens$Unit" (52 : Nat) ({ cls := "UnitKitchens$Unit", name := "owed", desc := "()I" } : Jvm.MethodName)) ∈ xT := xT_in 548 (by decide +kernel) rfl
theorem tw_549 : (Jvm.Cond.methodLink "UnitKitchens$Film" (166 : Nat) ({ cls := "UnitKitchens$Unit", name := "serveOthers", desc := "(I)V" } : Jvm.MethodName)) ∈ xT := xT_in 549 (by decide +kernel) rfl
theorem tw_550 : (Jvm.Cond.instanceMethod ({ cls := "UnitKitchens$Unit", name := "serveOthers", desc := "(I)V" } : Jvm.MethodName)) ∈ xT := xT_in 550 (by decide +kernel) rfl
theorem tw_551 : (Jvm.Cond.selects "UnitKitchens$Unit" ({ cls := "UnitKitchens$Unit", name := "serveOthers", desc := "(I)V" } : Jvm.MethodName) ({ cls := "UnitKitchens$Unit", name := "serveOthers", desc := "(I)V" } : Jvm.MethodName)) ∈ xT := xT_in 551 (by decide +kernel) rfl
theorem tw_552 : (Jvm.Cond.code ({ cls := "UnitKitchens$Unit", name := "serveOthers", desc := "(I)V" } : Jvm.MethodName) prog_8_method_7_code (2 : Nat) (Option.none : Option Jvm.ClassFile.FieldType)) ∈ xT := xT_in 552 (by decide +kernel) rfl
theorem tw_553 : (Jvm.Cond.methodLink "UnitKitchens$Film" (117 : Nat) ({ cls := "UnitKitchens$Film", name := "punish", desc := "()V" } : Jvm.MethodName)) ∈ xT := xT_in 553 (by decide +kernel) rfl
theorem tw_554 : (Jvm.Cond.instanceMethod ({ cls := "UnitKitchens$Film", name := "punish", desc := "()V" } : Jvm.MethodName)) ∈ xT := xT_in 554 (by decide +kernel) rfl
theorem tw_555 : (Jvm.Cond.selects "UnitKitchens$Film" ({ cls := "UnitKitchens$Film", name := "punish", desc := "()V" } : Jvm.MethodName) ({ cls := "UnitKitchens$Film", name := "punish", desc := "()V" } : Jvm.MethodName)) ∈ xT := xT_in 555 (by decide +kernel) rfl
theorem tw_556 : (Jvm.Cond.code ({ cls := "UnitKitchens$Film", name := "punish", desc := "()V" } : Jvm.MethodName) prog_2_method_14_code (3 : Nat) (Option.none : Option Jvm.ClassFile.FieldType)) ∈ xT := xT_in 556 (by decide +kernel) rfl
theorem tw_557 : (Jvm.Cond.methodLink "UnitKitchens$Film" (176 : Nat) ({ cls := "UnitKitchens$Unit", name := "waiting", desc := "(I)I" } : Jvm.MethodName)) ∈ xT := xT_in 557 (by decide +kernel) rfl
theorem tw_558 : (Jvm.Cond.instanceMethod ({ cls := "UnitKitchens$Unit", name := "waiting", desc := "(I)I" } : Jvm.MethodName)) ∈ xT := xT_in 558 (by decide +kernel) rfl
theorem tw_559 : (Jvm.Cond.selects "UnitKitchens$Unit" ({ cls := "UnitKitchens$Unit", name := "waiting", desc := "(I)I" } : Jvm.MethodName) ({ cls := "UnitKitchens$Unit", name := "waiting", desc := "(I)I" } : Jvm.MethodName)) ∈ xT := xT_in 559 (by decide +kernel) rfl
theorem tw_560 : (Jvm.Cond.code ({ cls := "UnitKitchens$Unit", name := "waiting", desc := "(I)I" } : Jvm.MethodName) prog_8_method_4_code (2 : Nat) (Option.some Jvm.ClassFile.FieldType.int)) ∈ xT := xT_in 560 (by decide +kernel) rfl
theorem tw_561 : (Jvm.Cond.constant "UnitKitchens$Film" (180 : Nat) (100000000 : Int32)) ∈ xT := xT_in 561 (by decide +kernel) rfl
theorem tw_562 : (Jvm.Cond.methodLink "UnitKitchens$Film" (184 : Nat) ({ cls := "java/lang/Math", name := "min", desc := "(II)I" } : Jvm.MethodName)) ∈ xT := xT_in 562 (by decide +kernel) rfl
theorem tw_563 : (Jvm.Cond.methodLink "UnitKitchensLaw" (95 : Nat) ({ cls := "UnitKitchensLaw", name := "cell", desc := "([II)I" } : Jvm.MethodName)) ∈ xT := xT_in 563 (by decide +kernel) rfl
theorem tw_564 : (Jvm.Cond.static ({ cls := "UnitKitchensLaw", name := "cell", desc := "([II)I" } : Jvm.MethodName)) ∈ xT := xT_in 564 (by decide +kernel) rfl
set_option maxRecDepth 100000 in
theorem tw_565 : (Jvm.Cond.code ({ cls := "UnitKitchensLaw", name := "cell", desc := "([II)I" } : Jvm.MethodName) method_2_code (2 : Nat) (Option.some Jvm.ClassFile.FieldType.int)) ∈ xT := xT_in 565 (rfl) rfl
theorem tw_566 : (Jvm.Cond.constant "UnitKitchensLaw" (7 : Nat) (1540483477 : Int32)) ∈ xT := xT_in 566 (by decide +kernel) rfl
theorem tw_567 : (Jvm.Cond.methodLink "UnitKitchensLaw" (34 : Nat) ({ cls := "UnitKitchensLaw", name := "at", desc := "(II)I" } : Jvm.MethodName)) ∈ xT := xT_in 567 (by decide +kernel) rfl
theorem tw_568 : (Jvm.Cond.static ({ cls := "UnitKitchensLaw", name := "at", desc := "(II)I" } : Jvm.MethodName)) ∈ xT := xT_in 568 (by decide +kernel) rfl
set_option maxRecDepth 100000 in
theorem tw_569 : (Jvm.Cond.code ({ cls := "UnitKitchensLaw", name := "at", desc := "(II)I" } : Jvm.MethodName) method_3_code (2 : Nat) (Option.some Jvm.ClassFile.FieldType.int)) ∈ xT := xT_in 569 (rfl) rfl
theorem tw_570 : (Jvm.Cond.methodLink "UnitKitchensLaw" (120 : Nat) ({ cls := "UnitKitchensLaw", name := "minute", desc := "([I[I[I[I[I[I[I[I)V" } : Jvm.MethodName)) ∈ xT := xT_in 570 (by decide +kernel) rfl
theorem tw_571 : (Jvm.Cond.static ({ cls := "UnitKitchensLaw", name := "minute", desc := "([I[I[I[I[I[I[I[I)V" } : Jvm.MethodName)) ∈ xT := xT_in 571 (by decide +kernel) rfl
set_option maxRecDepth 100000 in
theorem tw_572 : (Jvm.Cond.code ({ cls := "UnitKitchensLaw", name := "minute", desc := "([I[I[I[I[I[I[I[I)V" } : Jvm.MethodName) method_12_code (10 : Nat) (Option.none : Option Jvm.ClassFile.FieldType)) ∈ xT := xT_in 572 (rfl) rfl
theorem tw_573 : (Jvm.Cond.methodLink "UnitKitchensLaw" (23 : Nat) ({ cls := "UnitKitchensLaw", name := "key", desc := "(III)I" } : Jvm.MethodName)) ∈ xT := xT_in 573 (by decide +kernel) rfl
theorem tw_574 : (Jvm.Cond.static ({ cls := "UnitKitchensLaw", name := "key", desc := "(III)I" } : Jvm.MethodName)) ∈ xT := xT_in 574 (by decide +kernel) rfl
set_option maxRecDepth 100000 in
theorem tw_575 : (Jvm.Cond.code ({ cls := "UnitKitchensLaw", name := "key", desc := "(III)I" } : Jvm.MethodName) method_5_code (3 : Nat) (Option.some Jvm.ClassFile.FieldType.int)) ∈ xT := xT_in 575 (rfl) rfl
theorem tw_576 : (Jvm.Cond.methodLink "UnitKitchensLaw" (27 : Nat) ({ cls := "UnitKitchensLaw", name := "put", desc := "([I[III)V" } : Jvm.MethodName)) ∈ xT := xT_in 576 (by decide +kernel) rfl
theorem tw_577 : (Jvm.Cond.static ({ cls := "UnitKitchensLaw", name := "put", desc := "([I[III)V" } : Jvm.MethodName)) ∈ xT := xT_in 577 (by decide +kernel) rfl
set_option maxRecDepth 100000 in
theorem tw_578 : (Jvm.Cond.code ({ cls := "UnitKitchensLaw", name := "put", desc := "([I[III)V" } : Jvm.MethodName) method_6_code (5 : Nat) (Option.none : Option Jvm.ClassFile.FieldType)) ∈ xT := xT_in 578 (rfl) rfl
theorem tw_579 : (Jvm.Cond.constant "UnitKitchensLaw" (8 : Nat) (131071 : Int32)) ∈ xT := xT_in 579 (by decide +kernel) rfl
theorem tw_580 : (Jvm.Cond.constant "UnitKitchensLaw" (9 : Nat) (131072 : Int32)) ∈ xT := xT_in 580 (by decide +kernel) rfl
theorem tw_581 : (Jvm.Cond.methodLink "UnitKitchensLaw" (19 : Nat) ({ cls := "UnitKitchensLaw", name := "less", desc := "([I[III)V" } : Jvm.MethodName)) ∈ xT := xT_in 581 (by decide +kernel) rfl
theorem tw_582 : (Jvm.Cond.static ({ cls := "UnitKitchensLaw", name := "less", desc := "([I[III)V" } : Jvm.MethodName)) ∈ xT := xT_in 582 (by decide +kernel) rfl
set_option maxRecDepth 100000 in
theorem tw_583 : (Jvm.Cond.code ({ cls := "UnitKitchensLaw", name := "less", desc := "([I[III)V" } : Jvm.MethodName) method_8_code (4 : Nat) (Option.none : Option Jvm.ClassFile.FieldType)) ∈ xT := xT_in 583 (rfl) rfl
theorem tw_584 : (Jvm.Cond.methodLink "UnitKitchensLaw" (30 : Nat) ({ cls := "UnitKitchensLaw", name := "serve", desc := "([I[I[I[I[I[IIII)V" } : Jvm.MethodName)) ∈ xT := xT_in 584 (by decide +kernel) rfl
theorem tw_585 : (Jvm.Cond.static ({ cls := "UnitKitchensLaw", name := "serve", desc := "([I[I[I[I[I[IIII)V" } : Jvm.MethodName)) ∈ xT := xT_in 585 (by decide +kernel) rfl
set_option maxRecDepth 100000 in
theorem tw_586 : (Jvm.Cond.code ({ cls := "UnitKitchensLaw", name := "serve", desc := "([I[I[I[I[I[IIII)V" } : Jvm.MethodName) method_11_code (13 : Nat) (Option.none : Option Jvm.ClassFile.FieldType)) ∈ xT := xT_in 586 (rfl) rfl
theorem tw_587 : (Jvm.Cond.methodLink "UnitKitchensLaw" (16 : Nat) ({ cls := "UnitKitchensLaw", name := "first", desc := "([I[III)I" } : Jvm.MethodName)) ∈ xT := xT_in 587 (by decide +kernel) rfl
theorem tw_588 : (Jvm.Cond.static ({ cls := "UnitKitchensLaw", name := "first", desc := "([I[III)I" } : Jvm.MethodName)) ∈ xT := xT_in 588 (by decide +kernel) rfl
set_option maxRecDepth 100000 in
theorem tw_589 : (Jvm.Cond.code ({ cls := "UnitKitchensLaw", name := "first", desc := "([I[III)I" } : Jvm.MethodName) method_7_code (7 : Nat) (Option.some Jvm.ClassFile.FieldType.int)) ∈ xT := xT_in 589 (rfl) rfl
theorem tw_590 : (Jvm.Cond.methodLink "UnitKitchensLaw" (108 : Nat) ({ cls := "UnitKitchensLaw", name := "kitchens", desc := "(LUnitKitchens;II[I[I[I[I[I)Z" } : Jvm.MethodName)) ∈ xT := xT_in 590 (by decide +kernel) rfl
theorem tw_591 : (Jvm.Cond.static ({ cls := "UnitKitchensLaw", name := "kitchens", desc := "(LUnitKitchens;II[I[I[I[I[I)Z" } : Jvm.MethodName)) ∈ xT := xT_in 591 (by decide +kernel) rfl
set_option maxRecDepth 100000 in
theorem tw_592 : (Jvm.Cond.code ({ cls := "UnitKitchensLaw", name := "kitchens", desc := "(LUnitKitchens;II[I[I[I[I[I)Z" } : Jvm.MethodName) method_13_code (14 : Nat) (Option.some Jvm.ClassFile.FieldType.boolean)) ∈ xT := xT_in 592 (rfl) rfl
theorem tw_593 : (Jvm.Cond.methodLink "UnitKitchensLaw" (38 : Nat) ({ cls := "UnitKitchens", name := "stock", desc := "(III)I" } : Jvm.MethodName)) ∈ xT := xT_in 593 (by decide +kernel) rfl
theorem tw_594 : (Jvm.Cond.instanceMethod ({ cls := "UnitKitchens", name := "stock", desc := "(III)I" } : Jvm.MethodName)) ∈ xT := xT_in 594 (by decide +kernel) rfl
theorem tw_595 : (Jvm.Cond.selects "UnitKitchens" ({ cls := "UnitKitchens", name := "stock", desc := "(III)I" } : Jvm.MethodName) ({ cls := "UnitKitchens", name := "stock", desc := "(III)I" } : Jvm.MethodName)) ∈ xT := xT_in 595 (by decide +kernel) rfl
theorem tw_596 : (Jvm.Cond.code ({ cls := "UnitKitchens", name := "stock", desc := "(III)I" } : Jvm.MethodName) prog_1_method_6_code (5 : Nat) (Option.some Jvm.ClassFile.FieldType.int)) ∈ xT := xT_in 596 (by decide +kernel) rfl
theorem tw_597 : (Jvm.Cond.methodLink "UnitKitchensLaw" (43 : Nat) ({ cls := "UnitKitchens", name := "canCook", desc := "(II)I" } : Jvm.MethodName)) ∈ xT := xT_in 597 (by decide +kernel) rfl
theorem tw_598 : (Jvm.Cond.instanceMethod ({ cls := "UnitKitchens", name := "canCook", desc := "(II)I" } : Jvm.MethodName)) ∈ xT := xT_in 598 (by decide +kernel) rfl
theorem tw_599 : (Jvm.Cond.selects "UnitKitchens" ({ cls := "UnitKitchens", name := "canCook", desc := "(II)I" } : Jvm.MethodName) ({ cls := "UnitKitchens", name := "canCook", desc := "(II)I" } : Jvm.MethodName)) ∈ xT := xT_in 599 (by decide +kernel) rfl
theorem tw_600 : (Jvm.Cond.code ({ cls := "UnitKitchens", name := "canCook", desc := "(II)I" } : Jvm.MethodName) prog_1_method_30_code (3 : Nat) (Option.some Jvm.ClassFile.FieldType.int)) ∈ xT := xT_in 600 (by decide +kernel) rfl
theorem tw_601 : (Jvm.Cond.methodLink "UnitKitchens" (99 : Nat) ({ cls := "UnitKitchens$Kitchen", name := "enoughFor", desc := "(I)I" } : Jvm.MethodName)) ∈ xT := xT_in 601 (by decide +kernel) rfl
theorem tw_602 : (Jvm.Cond.instanceMethod ({ cls := "UnitKitchens$Kitchen", name := "enoughFor", desc := "(I)I" } : Jvm.MethodName)) ∈ xT := xT_in 602 (by decide +kernel) rfl
theorem tw_603 : (Jvm.Cond.selects "UnitKitchens$Kitchen" ({ cls := "UnitKitchens$Kitchen", name := "enoughFor", desc := "(I)I" } : Jvm.MethodName) ({ cls := "UnitKitchens$Kitchen", name := "enoughFor", desc := "(I)I" } : Jvm.MethodName)) ∈ xT := xT_in 603 (by decide +kernel) rfl
theorem tw_604 : (Jvm.Cond.code ({ cls := "UnitKitchens$Kitchen", name := "enoughFor", desc := "(I)I" } : Jvm.MethodName) prog_3_method_3_code (5 : Nat) (Option.some Jvm.ClassFile.FieldType.int)) ∈ xT := xT_in 604 (by decide +kernel) rfl
theorem tw_607 : (Jvm.Cond.methodLink "UnitKitchensLaw" (46 : Nat) ({ cls := "UnitKitchens", name := "cook", desc := "(III)I" } : Jvm.MethodName)) ∈ xT := xT_in 607 (by decide +kernel) rfl
theorem tw_608 : (Jvm.Cond.instanceMethod ({ cls := "UnitKitchens", name := "cook", desc := "(III)I" } : Jvm.MethodName)) ∈ xT := xT_in 608 (by decide +kernel) rfl
theorem tw_609 : (Jvm.Cond.selects "UnitKitchens" ({ cls := "UnitKitchens", name := "cook", desc := "(III)I" } : Jvm.MethodName) ({ cls := "UnitKitchens", name := "cook", desc := "(III)I" } : Jvm.MethodName)) ∈ xT := xT_in 609 (by decide +kernel) rfl
theorem tw_610 : (Jvm.Cond.code ({ cls := "UnitKitchens", name := "cook", desc := "(III)I" } : Jvm.MethodName) prog_1_method_7_code (5 : Nat) (Option.some Jvm.ClassFile.FieldType.int)) ∈ xT := xT_in 610 (by decide +kernel) rfl
theorem tw_611 : (Jvm.Cond.methodLink "UnitKitchens" (102 : Nat) ({ cls := "UnitKitchens$Kitchen", name := "fillPot", desc := "(II)V" } : Jvm.MethodName)) ∈ xT := xT_in 611 (by decide +kernel) rfl
theorem tw_612 : (Jvm.Cond.instanceMethod ({ cls := "UnitKitchens$Kitchen", name := "fillPot", desc := "(II)V" } : Jvm.MethodName)) ∈ xT := xT_in 612 (by decide +kernel) rfl
theorem tw_613 : (Jvm.Cond.selects "UnitKitchens$Kitchen" ({ cls := "UnitKitchens$Kitchen", name := "fillPot", desc := "(II)V" } : Jvm.MethodName) ({ cls := "UnitKitchens$Kitchen", name := "fillPot", desc := "(II)V" } : Jvm.MethodName)) ∈ xT := xT_in 613 (by decide +kernel) rfl
theorem tw_614 : (Jvm.Cond.code ({ cls := "UnitKitchens$Kitchen", name := "fillPot", desc := "(II)V" } : Jvm.MethodName) prog_3_method_4_code (4 : Nat) (Option.none : Option Jvm.ClassFile.FieldType)) ∈ xT := xT_in 614 (by decide +kernel) rfl
theorem tw_615 : (Jvm.Cond.methodLink "UnitKitchens" (105 : Nat) ({ cls := "UnitKitchens", name := "dividedUp", desc := "(II)I" } : Jvm.MethodName)) ∈ xT := xT_in 615 (by decide +kernel) rfl
theorem tw_616 : (Jvm.Cond.static ({ cls := "UnitKitchens", name := "dividedUp", desc := "(II)I" } : Jvm.MethodName)) ∈ xT := xT_in 616 (by decide +kernel) rfl
theorem tw_617 : (Jvm.Cond.code ({ cls := "UnitKitchens", name := "dividedUp", desc := "(II)I" } : Jvm.MethodName) prog_1_method_38_code (2 : Nat) (Option.some Jvm.ClassFile.FieldType.int)) ∈ xT := xT_in 617 (by decide +kernel) rfl
theorem tw_618 : (Jvm.Cond.methodLink "UnitKitchensLaw" (112 : Nat) ({ cls := "UnitKitchensLaw", name := "lorries", desc := "(LUnitKitchens;II[I[I[I[I[I[I)Z" } : Jvm.MethodName)) ∈ xT := xT_in 618 (by decide +kernel) rfl
theorem tw_619 : (Jvm.Cond.static ({ cls := "UnitKitchensLaw", name := "lorries", desc := "(LUnitKitchens;II[I[I[I[I[I[I)Z" } : Jvm.MethodName)) ∈ xT := xT_in 619 (by decide +kernel) rfl
set_option maxRecDepth 100000 in
theorem tw_620 : (Jvm.Cond.code ({ cls := "UnitKitchensLaw", name := "lorries", desc := "(LUnitKitchens;II[I[I[I[I[I[I)Z" } : Jvm.MethodName) method_14_code (18 : Nat) (Option.some Jvm.ClassFile.FieldType.boolean)) ∈ xT := xT_in 620 (rfl) rfl
theorem tw_621 : (Jvm.Cond.methodLink "UnitKitchensLaw" (49 : Nat) ({ cls := "UnitKitchensLaw", name := "drive", desc := "([I[III)I" } : Jvm.MethodName)) ∈ xT := xT_in 621 (by decide +kernel) rfl
theorem tw_622 : (Jvm.Cond.static ({ cls := "UnitKitchensLaw", name := "drive", desc := "([I[III)I" } : Jvm.MethodName)) ∈ xT := xT_in 622 (by decide +kernel) rfl
set_option maxRecDepth 100000 in
theorem tw_623 : (Jvm.Cond.code ({ cls := "UnitKitchensLaw", name := "drive", desc := "([I[III)I" } : Jvm.MethodName) method_4_code (7 : Nat) (Option.some Jvm.ClassFile.FieldType.int)) ∈ xT := xT_in 623 (rfl) rfl
theorem tw_624 : (Jvm.Cond.methodLink "UnitKitchensLaw" (52 : Nat) ({ cls := "UnitKitchens", name := "drive", desc := "(II)I" } : Jvm.MethodName)) ∈ xT := xT_in 624 (by decide +kernel) rfl
theorem tw_625 : (Jvm.Cond.instanceMethod ({ cls := "UnitKitchens", name := "drive", desc := "(II)I" } : Jvm.MethodName)) ∈ xT := xT_in 625 (by decide +kernel) rfl
theorem tw_626 : (Jvm.Cond.selects "UnitKitchens" ({ cls := "UnitKitchens", name := "drive", desc := "(II)I" } : Jvm.MethodName) ({ cls := "UnitKitchens", name := "drive", desc := "(II)I" } : Jvm.MethodName)) ∈ xT := xT_in 626 (by decide +kernel) rfl
theorem tw_627 : (Jvm.Cond.code ({ cls := "UnitKitchens", name := "drive", desc := "(II)I" } : Jvm.MethodName) prog_1_method_10_code (4 : Nat) (Option.some Jvm.ClassFile.FieldType.int)) ∈ xT := xT_in 627 (by decide +kernel) rfl
theorem tw_628 : (Jvm.Cond.methodLink "UnitKitchens" (139 : Nat) ({ cls := "UnitKitchens$Film", name := "driveMinutes", desc := "(II)I" } : Jvm.MethodName)) ∈ xT := xT_in 628 (by decide +kernel) rfl
theorem tw_629 : (Jvm.Cond.instanceMethod ({ cls := "UnitKitchens$Film", name := "driveMinutes", desc := "(II)I" } : Jvm.MethodName)) ∈ xT := xT_in 629 (by decide +kernel) rfl
theorem tw_630 : (Jvm.Cond.selects "UnitKitchens$Film" ({ cls := "UnitKitchens$Film", name := "driveMinutes", desc := "(II)I" } : Jvm.MethodName) ({ cls := "UnitKitchens$Film", name := "driveMinutes", desc := "(II)I" } : Jvm.MethodName)) ∈ xT := xT_in 630 (by decide +kernel) rfl
theorem tw_631 : (Jvm.Cond.code ({ cls := "UnitKitchens$Film", name := "driveMinutes", desc := "(II)I" } : Jvm.MethodName) prog_2_method_16_code (4 : Nat) (Option.some Jvm.ClassFile.FieldType.int)) ∈ xT := xT_in 631 (by decide +kernel) rfl
theorem tw_632 : (Jvm.Cond.methodLink "UnitKitchens$Film" (189 : Nat) ({ cls := "UnitKitchens$Film", name := "isPlace", desc := "(I)Z" } : Jvm.MethodName)) ∈ xT := xT_in 632 (by decide +kernel) rfl
theorem tw_633 : (Jvm.Cond.instanceMethod ({ cls := "UnitKitchens$Film", name := "isPlace", desc := "(I)Z" } : Jvm.MethodName)) ∈ xT := xT_in 633 (by decide +kernel) rfl
theorem tw_634 : (Jvm.Cond.selects "UnitKitchens$Film" ({ cls := "UnitKitchens$Film", name := "isPlace", desc := "(I)Z" } : Jvm.MethodName) ({ cls := "UnitKitchens$Film", name := "isPlace", desc := "(I)Z" } : Jvm.MethodName)) ∈ xT := xT_in 634 (by decide +kernel) rfl
theorem tw_635 : (Jvm.Cond.code ({ cls := "UnitKitchens$Film", name := "isPlace", desc := "(I)Z" } : Jvm.MethodName) prog_2_method_15_code (2 : Nat) (Option.some Jvm.ClassFile.FieldType.boolean)) ∈ xT := xT_in 635 (by decide +kernel) rfl
theorem tw_636 : (Jvm.Cond.methodLink "UnitKitchens$Film" (193 : Nat) ({ cls := "java/lang/Math", name := "abs", desc := "(I)I" } : Jvm.MethodName)) ∈ xT := xT_in 636 (by decide +kernel) rfl
theorem tw_637 : (Jvm.Cond.static ({ cls := "java/lang/Math", name := "abs", desc := "(I)I" } : Jvm.MethodName)) ∈ xT := xT_in 637 (by decide +kernel) rfl
theorem tw_638 : (Jvm.Cond.code ({ cls := "java/lang/Math", name := "abs", desc := "(I)I" } : Jvm.MethodName) prog_16_method_59_code (1 : Nat) (Option.some Jvm.ClassFile.FieldType.int)) ∈ xT := xT_in 638 (by decide +kernel) rfl
theorem tw_640 : (Jvm.Cond.methodLink "UnitKitchens$Film" (199 : Nat) ({ cls := "java/lang/Math", name := "max", desc := "(II)I" } : Jvm.MethodName)) ∈ xT := xT_in 640 (by decide +kernel) rfl
theorem tw_641 : (Jvm.Cond.static ({ cls := "java/lang/Math", name := "max", desc := "(II)I" } : Jvm.MethodName)) ∈ xT := xT_in 641 (by decide +kernel) rfl
theorem tw_642 : (Jvm.Cond.code ({ cls := "java/lang/Math", name := "max", desc := "(II)I" } : Jvm.MethodName) prog_16_method_65_code (2 : Nat) (Option.some Jvm.ClassFile.FieldType.int)) ∈ xT := xT_in 642 (by decide +kernel) rfl
theorem tw_643 : (Jvm.Cond.methodLink "UnitKitchensLaw" (10 : Nat) ({ cls := "UnitKitchensLaw", name := "meals", desc := "([I[III)I" } : Jvm.MethodName)) ∈ xT := xT_in 643 (by decide +kernel) rfl
theorem tw_644 : (Jvm.Cond.static ({ cls := "UnitKitchensLaw", name := "meals", desc := "([I[III)I" } : Jvm.MethodName)) ∈ xT := xT_in 644 (by decide +kernel) rfl
set_option maxRecDepth 100000 in
theorem tw_645 : (Jvm.Cond.code ({ cls := "UnitKitchensLaw", name := "meals", desc := "([I[III)I" } : Jvm.MethodName) method_9_code (6 : Nat) (Option.some Jvm.ClassFile.FieldType.int)) ∈ xT := xT_in 645 (rfl) rfl
theorem tw_646 : (Jvm.Cond.methodLink "UnitKitchensLaw" (54 : Nat) ({ cls := "UnitKitchensLaw", name := "all", desc := "([I[II)I" } : Jvm.MethodName)) ∈ xT := xT_in 646 (by decide +kernel) rfl
theorem tw_647 : (Jvm.Cond.static ({ cls := "UnitKitchensLaw", name := "all", desc := "([I[II)I" } : Jvm.MethodName)) ∈ xT := xT_in 647 (by decide +kernel) rfl
set_option maxRecDepth 100000 in
theorem tw_648 : (Jvm.Cond.code ({ cls := "UnitKitchensLaw", name := "all", desc := "([I[II)I" } : Jvm.MethodName) method_10_code (3 : Nat) (Option.some Jvm.ClassFile.FieldType.int)) ∈ xT := xT_in 648 (rfl) rfl
theorem tw_649 : (Jvm.Cond.methodLink "UnitKitchensLaw" (58 : Nat) ({ cls := "UnitKitchens", name := "load", desc := "(IIII)I" } : Jvm.MethodName)) ∈ xT := xT_in 649 (by decide +kernel) rfl
theorem tw_650 : (Jvm.Cond.instanceMethod ({ cls := "UnitKitchens", name := "load", desc := "(IIII)I" } : Jvm.MethodName)) ∈ xT := xT_in 650 (by decide +kernel) rfl
theorem tw_651 : (Jvm.Cond.selects "UnitKitchens" ({ cls := "UnitKitchens", name := "load", desc := "(IIII)I" } : Jvm.MethodName) ({ cls := "UnitKitchens", name := "load", desc := "(IIII)I" } : Jvm.MethodName)) ∈ xT := xT_in 651 (by decide +kernel) rfl
theorem tw_652 : (Jvm.Cond.code ({ cls := "UnitKitchens", name := "load", desc := "(IIII)I" } : Jvm.MethodName) prog_1_method_8_code (7 : Nat) (Option.some Jvm.ClassFile.FieldType.int)) ∈ xT := xT_in 652 (by decide +kernel) rfl
theorem tw_653 : (Jvm.Cond.methodLink "UnitKitchens" (128 : Nat) ({ cls := "UnitKitchens$Meals", name := "inAll", desc := "()I" } : Jvm.MethodName)) ∈ xT := xT_in 653 (by decide +kernel) rfl
theorem tw_654 : (Jvm.Cond.methodLink "UnitKitchens" (135 : Nat) ({ cls := "UnitKitchens$Meals", name := "carryFirst", desc := "(IIILUnitKitchens$Meals;)V" } : Jvm.MethodName)) ∈ xT := xT_in 654 (by decide +kernel) rfl
theorem tw_655 : (Jvm.Cond.instanceMethod ({ cls := "UnitKitchens$Meals", name := "carryFirst", desc := "(IIILUnitKitchens$Meals;)V" } : Jvm.MethodName)) ∈ xT := xT_in 655 (by decide +kernel) rfl
theorem tw_656 : (Jvm.Cond.selects "UnitKitchens$Meals" ({ cls := "UnitKitchens$Meals", name := "carryFirst", desc := "(IIILUnitKitchens$Meals;)V" } : Jvm.MethodName) ({ cls := "UnitKitchens$Meals", name := "carryFirst", desc := "(IIILUnitKitchens$Meals;)V" } : Jvm.MethodName)) ∈ xT := xT_in 656 (by decide +kernel) rfl
theorem tw_657 : (Jvm.Cond.code ({ cls := "UnitKitchens$Meals", name := "carryFirst", desc := "(IIILUnitKitchens$Meals;)V" } : Jvm.MethodName) prog_5_method_10_code (8 : Nat) (Option.none : Option Jvm.ClassFile.FieldType)) ∈ xT := xT_in 657 (by decide +kernel) rfl
theorem tw_658 : (Jvm.Cond.methodLink "UnitKitchens$Meals" (54 : Nat) ({ cls := "UnitKitchens$Meals", name := "put", desc := "(III)V" } : Jvm.MethodName)) ∈ xT := xT_in 658 (by decide +kernel) rfl
theorem tw_659 : (Jvm.Cond.methodLink "UnitKitchensLaw" (62 : Nat) ({ cls := "UnitKitchens", name := "unload", desc := "(II)I" } : Jvm.MethodName)) ∈ xT := xT_in 659 (by decide +kernel) rfl
theorem tw_660 : (Jvm.Cond.instanceMethod ({ cls := "UnitKitchens", name := "unload", desc := "(II)I" } : Jvm.MethodName)) ∈ xT := xT_in 660 (by decide +kernel) rfl
theorem tw_661 : (Jvm.Cond.selects "UnitKitchens" ({ cls := "UnitKitchens", name := "unload", desc := "(II)I" } : Jvm.MethodName) ({ cls := "UnitKitchens", name := "unload", desc := "(II)I" } : Jvm.MethodName)) ∈ xT := xT_in 661 (by decide +kernel) rfl
theorem tw_662 : (Jvm.Cond.code ({ cls := "UnitKitchens", name := "unload", desc := "(II)I" } : Jvm.MethodName) prog_1_method_9_code (7 : Nat) (Option.some Jvm.ClassFile.FieldType.int)) ∈ xT := xT_in 662 (by decide +kernel) rfl
theorem tw_663 : (Jvm.Cond.methodLink "UnitKitchensLaw" (116 : Nat) ({ cls := "UnitKitchensLaw", name := "units", desc := "(LUnitKitchens;II[I[I)Z" } : Jvm.MethodName)) ∈ xT := xT_in 663 (by decide +kernel) rfl
theorem tw_664 : (Jvm.Cond.static ({ cls := "UnitKitchensLaw", name := "units", desc := "(LUnitKitchens;II[I[I)Z" } : Jvm.MethodName)) ∈ xT := xT_in 664 (by decide +kernel) rfl
set_option maxRecDepth 100000 in
theorem tw_665 : (Jvm.Cond.code ({ cls := "UnitKitchensLaw", name := "units", desc := "(LUnitKitchens;II[I[I)Z" } : Jvm.MethodName) method_15_code (12 : Nat) (Option.some Jvm.ClassFile.FieldType.boolean)) ∈ xT := xT_in 665 (rfl) rfl
theorem tw_666 : (Jvm.Cond.methodLink "UnitKitchensLaw" (65 : Nat) ({ cls := "UnitKitchens", name := "addUnit", desc := "(IIIII)I" } : Jvm.MethodName)) ∈ xT := xT_in 666 (by decide +kernel) rfl
theorem tw_667 : (Jvm.Cond.instanceMethod ({ cls := "UnitKitchens", name := "addUnit", desc := "(IIIII)I" } : Jvm.MethodName)) ∈ xT := xT_in 667 (by decide +kernel) rfl
theorem tw_668 : (Jvm.Cond.selects "UnitKitchens" ({ cls := "UnitKitchens", name := "addUnit", desc := "(IIIII)I" } : Jvm.MethodName) ({ cls := "UnitKitchens", name := "addUnit", desc := "(IIIII)I" } : Jvm.MethodName)) ∈ xT := xT_in 668 (by decide +kernel) rfl
theorem tw_669 : (Jvm.Cond.code ({ cls := "UnitKitchens", name := "addUnit", desc := "(IIIII)I" } : Jvm.MethodName) prog_1_method_11_code (6 : Nat) (Option.some Jvm.ClassFile.FieldType.int)) ∈ xT := xT_in 669 (by decide +kernel) rfl
theorem tw_670 : (Jvm.Cond.methodLink "UnitKitchens" (151 : Nat) ({ cls := "UnitKitchens$Film", name := "newUnit", desc := "(IIIII)I" } : Jvm.MethodName)) ∈ xT := xT_in 670 (by decide +kernel) rfl
theorem tw_671 : (Jvm.Cond.instanceMethod ({ cls := "UnitKitchens$Film", name := "newUnit", desc := "(IIIII)I" } : Jvm.MethodName)) ∈ xT := xT_in 671 (by decide +kernel) rfl
theorem tw_672 : (Jvm.Cond.selects "UnitKitchens$Film" ({ cls := "UnitKitchens$Film", name := "newUnit", desc := "(IIIII)I" } : Jvm.MethodName) ({ cls := "UnitKitchens$Film", name := "newUnit", desc := "(IIIII)I" } : Jvm.MethodName)) ∈ xT := xT_in 672 (by decide +kernel) rfl
theorem tw_673 : (Jvm.Cond.code ({ cls := "UnitKitchens$Film", name := "newUnit", desc := "(IIIII)I" } : Jvm.MethodName) prog_2_method_6_code (7 : Nat) (Option.some Jvm.ClassFile.FieldType.int)) ∈ xT := xT_in 673 (by decide +kernel) rfl
theorem tw_674 : (Jvm.Cond.methodLink "UnitKitchensLaw" (69 : Nat) ({ cls := "UnitKitchens", name := "move", desc := "(II)I" } : Jvm.MethodName)) ∈ xT := xT_in 674 (by decide +kernel) rfl
theorem tw_675 : (Jvm.Cond.instanceMethod ({ cls := "UnitKitchens", name := "move", desc := "(II)I" } : Jvm.MethodName)) ∈ xT := xT_in 675 (by decide +kernel) rfl
theorem tw_676 : (Jvm.Cond.selects "UnitKitchens" ({ cls := "UnitKitchens", name := "move", desc := "(II)I" } : Jvm.MethodName) ({ cls := "UnitKitchens", name := "move", desc := "(II)I" } : Jvm.MethodName)) ∈ xT := xT_in 676 (by decide +kernel) rfl
theorem tw_677 : (Jvm.Cond.code ({ cls := "UnitKitchens", name := "move", desc := "(II)I" } : Jvm.MethodName) prog_1_method_14_code (5 : Nat) (Option.some Jvm.ClassFile.FieldType.int)) ∈ xT := xT_in 677 (by decide +kernel) rfl
theorem tw_678 : (Jvm.Cond.methodLink "UnitKitchensLaw" (72 : Nat) ({ cls := "UnitKitchens", name := "split", desc := "(III)I" } : Jvm.MethodName)) ∈ xT := xT_in 678 (by decide +kernel) rfl
theorem tw_679 : (Jvm.Cond.instanceMethod ({ cls := "UnitKitchens", name := "split", desc := "(III)I" } : Jvm.MethodName)) ∈ xT := xT_in 679 (by decide +kernel) rfl
theorem tw_680 : (Jvm.Cond.selects "UnitKitchens" ({ cls := "UnitKitchens", name := "split", desc := "(III)I" } : Jvm.MethodName) ({ cls := "UnitKitchens", name := "split", desc := "(III)I" } : Jvm.MethodName)) ∈ xT := xT_in 680 (by decide +kernel) rfl
theorem tw_681 : (Jvm.Cond.code ({ cls := "UnitKitchens", name := "split", desc := "(III)I" } : Jvm.MethodName) prog_1_method_12_code (5 : Nat) (Option.some Jvm.ClassFile.FieldType.int)) ∈ xT := xT_in 681 (by decide +kernel) rfl
theorem tw_682 : (Jvm.Cond.methodLink "UnitKitchensLaw" (75 : Nat) ({ cls := "UnitKitchens", name := "join", desc := "(II)I" } : Jvm.MethodName)) ∈ xT := xT_in 682 (by decide +kernel) rfl
theorem tw_683 : (Jvm.Cond.instanceMethod ({ cls := "UnitKitchens", name := "join", desc := "(II)I" } : Jvm.MethodName)) ∈ xT := xT_in 683 (by decide +kernel) rfl
theorem tw_684 : (Jvm.Cond.selects "UnitKitchens" ({ cls := "UnitKitchens", name := "join", desc := "(II)I" } : Jvm.MethodName) ({ cls := "UnitKitchens", name := "join", desc := "(II)I" } : Jvm.MethodName)) ∈ xT := xT_in 684 (by decide +kernel) rfl
theorem tw_685 : (Jvm.Cond.code ({ cls := "UnitKitchens", name := "join", desc := "(II)I" } : Jvm.MethodName) prog_1_method_13_code (5 : Nat) (Option.some Jvm.ClassFile.FieldType.int)) ∈ xT := xT_in 685 (by decide +kernel) rfl
theorem tw_687 : (Jvm.Cond.methodLink "UnitKitchens" (184 : Nat) ({ cls := "UnitKitchens$Unit", name := "takeIn", desc := "(LUnitKitchens$Unit;)V" } : Jvm.MethodName)) ∈ xT := xT_in 687 (by decide +kernel) rfl
theorem tw_688 : (Jvm.Cond.instanceMethod ({ cls := "UnitKitchens$Unit", name := "takeIn", desc := "(LUnitKitchens$Unit;)V" } : Jvm.MethodName)) ∈ xT := xT_in 688 (by decide +kernel) rfl
theorem tw_689 : (Jvm.Cond.selects "UnitKitchens$Unit" ({ cls := "UnitKitchens$Unit", name := "takeIn", desc := "(LUnitKitchens$Unit;)V" } : Jvm.MethodName) ({ cls := "UnitKitchens$Unit", name := "takeIn", desc := "(LUnitKitchens$Unit;)V" } : Jvm.MethodName)) ∈ xT := xT_in 689 (by decide +kernel) rfl
theorem tw_690 : (Jvm.Cond.code ({ cls := "UnitKitchens$Unit", name := "takeIn", desc := "(LUnitKitchens$Unit;)V" } : Jvm.MethodName) prog_8_method_9_code (2 : Nat) (Option.none : Option Jvm.ClassFile.FieldType)) ∈ xT := xT_in 690 (by decide +kernel) rfl
theorem tw_691 : (Jvm.Cond.methodLink "UnitKitchens$Unit" (56 : Nat) ({ cls := "java/lang/Math", name := "min", desc := "(II)I" } : Jvm.MethodName)) ∈ xT := xT_in 691 (by decide +kernel) rfl
theorem tw_692 : (Jvm.Cond.methodLink "UnitKitchens" (188 : Nat) ({ cls := "UnitKitchens$Unit", name := "leave", desc := "(I)V" } : Jvm.MethodName)) ∈ xT := xT_in 692 (by decide +kernel) rfl
theorem tw_693 : (Jvm.Cond.instanceMethod ({ cls := "UnitKitchens$Unit", name := "leave", desc := "(I)V" } : Jvm.MethodName)) ∈ xT := xT_in 693 (by decide +kernel) rfl
theorem tw_694 : (Jvm.Cond.selects "UnitKitchens$Unit" ({ cls := "UnitKitchens$Unit", name := "leave", desc := "(I)V" } : Jvm.MethodName) ({ cls := "UnitKitchens$Unit", name := "leave", desc := "(I)V" } : Jvm.MethodName)) ∈ xT := xT_in 694 (by decide +kernel) rfl
theorem tw_695 : (Jvm.Cond.code ({ cls := "UnitKitchens$Unit", name := "leave", desc := "(I)V" } : Jvm.MethodName) prog_8_method_10_code (2 : Nat) (Option.none : Option Jvm.ClassFile.FieldType)) ∈ xT := xT_in 695 (by decide +kernel) rfl
theorem tw_696 : (Jvm.Cond.methodLink "UnitKitchensLaw" (78 : Nat) ({ cls := "UnitKitchens", name := "wrap", desc := "(I)I" } : Jvm.MethodName)) ∈ xT := xT_in 696 (by decide +kernel) rfl
theorem tw_697 : (Jvm.Cond.instanceMethod ({ cls := "UnitKitchens", name := "wrap", desc := "(I)I" } : Jvm.MethodName)) ∈ xT := xT_in 697 (by decide +kernel) rfl
theorem tw_698 : (Jvm.Cond.selects "UnitKitchens" ({ cls := "UnitKitchens", name := "wrap", desc := "(I)I" } : Jvm.MethodName) ({ cls := "UnitKitchens", name := "wrap", desc := "(I)I" } : Jvm.MethodName)) ∈ xT := xT_in 698 (by decide +kernel) rfl
theorem tw_699 : (Jvm.Cond.code ({ cls := "UnitKitchens", name := "wrap", desc := "(I)I" } : Jvm.MethodName) prog_1_method_15_code (3 : Nat) (Option.some Jvm.ClassFile.FieldType.int)) ∈ xT := xT_in 699 (by decide +kernel) rfl
theorem tw_700 : (Jvm.Cond.methodLink "UnitKitchens" (192 : Nat) ({ cls := "UnitKitchens$Unit", name := "owed", desc := "()I" } : Jvm.MethodName)) ∈ xT := xT_in 700 (by decide +kernel) rfl
theorem tw_701 : (Jvm.Cond.methodLink "UnitKitchensLaw" (127 : Nat) ({ cls := "UnitKitchensLaw", name := "agree", desc := "(LUnitKitchens;[I[I[I[I[I[I[I[I[I[I)Z" } : Jvm.MethodName)) ∈ xT := xT_in 701 (by decide +kernel) rfl
theorem tw_702 : (Jvm.Cond.static ({ cls := "UnitKitchensLaw", name := "agree", desc := "(LUnitKitchens;[I[I[I[I[I[I[I[I[I[I)Z" } : Jvm.MethodName)) ∈ xT := xT_in 702 (by decide +kernel) rfl
set_option maxRecDepth 100000 in
theorem tw_703 : (Jvm.Cond.code ({ cls := "UnitKitchensLaw", name := "agree", desc := "(LUnitKitchens;[I[I[I[I[I[I[I[I[I[I)Z" } : Jvm.MethodName) method_16_code (17 : Nat) (Option.some Jvm.ClassFile.FieldType.boolean)) ∈ xT := xT_in 703 (rfl) rfl
theorem tw_704 : (Jvm.Cond.methodLink "UnitKitchensLaw" (82 : Nat) ({ cls := "UnitKitchens", name := "unit", desc := "(II)I" } : Jvm.MethodName)) ∈ xT := xT_in 704 (by decide +kernel) rfl
theorem tw_705 : (Jvm.Cond.instanceMethod ({ cls := "UnitKitchens", name := "unit", desc := "(II)I" } : Jvm.MethodName)) ∈ xT := xT_in 705 (by decide +kernel) rfl
theorem tw_706 : (Jvm.Cond.selects "UnitKitchens" ({ cls := "UnitKitchens", name := "unit", desc := "(II)I" } : Jvm.MethodName) ({ cls := "UnitKitchens", name := "unit", desc := "(II)I" } : Jvm.MethodName)) ∈ xT := xT_in 706 (by decide +kernel) rfl
theorem tw_707 : (Jvm.Cond.code ({ cls := "UnitKitchens", name := "unit", desc := "(II)I" } : Jvm.MethodName) prog_1_method_23_code (3 : Nat) (Option.some Jvm.ClassFile.FieldType.int)) ∈ xT := xT_in 707 (by decide +kernel) rfl
theorem tw_708 : (Jvm.Cond.methodLink "UnitKitchens" (250 : Nat) ({ cls := "UnitKitchens$Unit", name := "property", desc := "(I)I" } : Jvm.MethodName)) ∈ xT := xT_in 708 (by decide +kernel) rfl
theorem tw_709 : (Jvm.Cond.instanceMethod ({ cls := "UnitKitchens$Unit", name := "property", desc := "(I)I" } : Jvm.MethodName)) ∈ xT := xT_in 709 (by decide +kernel) rfl
theorem tw_710 : (Jvm.Cond.selects "UnitKitchens$Unit" ({ cls := "UnitKitchens$Unit", name := "property", desc := "(I)I" } : Jvm.MethodName) ({ cls := "UnitKitchens$Unit", name := "property", desc := "(I)I" } : Jvm.MethodName)) ∈ xT := xT_in 710 (by decide +kernel) rfl
theorem tw_711 : (Jvm.Cond.code ({ cls := "UnitKitchens$Unit", name := "property", desc := "(I)I" } : Jvm.MethodName) prog_8_method_12_code (2 : Nat) (Option.some Jvm.ClassFile.FieldType.int)) ∈ xT := xT_in 711 (by decide +kernel) rfl
theorem tw_712 : (Jvm.Cond.methodLink "UnitKitchensLaw" (85 : Nat) ({ cls := "UnitKitchens", name := "kitchen", desc := "(II)I" } : Jvm.MethodName)) ∈ xT := xT_in 712 (by decide +kernel) rfl
theorem tw_713 : (Jvm.Cond.instanceMethod ({ cls := "UnitKitchens", name := "kitchen", desc := "(II)I" } : Jvm.MethodName)) ∈ xT := xT_in 713 (by decide +kernel) rfl
theorem tw_714 : (Jvm.Cond.selects "UnitKitchens" ({ cls := "UnitKitchens", name := "kitchen", desc := "(II)I" } : Jvm.MethodName) ({ cls := "UnitKitchens", name := "kitchen", desc := "(II)I" } : Jvm.MethodName)) ∈ xT := xT_in 714 (by decide +kernel) rfl
theorem tw_715 : (Jvm.Cond.code ({ cls := "UnitKitchens", name := "kitchen", desc := "(II)I" } : Jvm.MethodName) prog_1_method_24_code (3 : Nat) (Option.some Jvm.ClassFile.FieldType.int)) ∈ xT := xT_in 715 (by decide +kernel) rfl
theorem tw_716 : (Jvm.Cond.methodLink "UnitKitchens" (253 : Nat) ({ cls := "UnitKitchens$Kitchen", name := "property", desc := "(II)I" } : Jvm.MethodName)) ∈ xT := xT_in 716 (by decide +kernel) rfl
theorem tw_717 : (Jvm.Cond.instanceMethod ({ cls := "UnitKitchens$Kitchen", name := "property", desc := "(II)I" } : Jvm.MethodName)) ∈ xT := xT_in 717 (by decide +kernel) rfl
theorem tw_718 : (Jvm.Cond.selects "UnitKitchens$Kitchen" ({ cls := "UnitKitchens$Kitchen", name := "property", desc := "(II)I" } : Jvm.MethodName) ({ cls := "UnitKitchens$Kitchen", name := "property", desc := "(II)I" } : Jvm.MethodName)) ∈ xT := xT_in 718 (by decide +kernel) rfl
theorem tw_719 : (Jvm.Cond.code ({ cls := "UnitKitchens$Kitchen", name := "property", desc := "(II)I" } : Jvm.MethodName) prog_3_method_6_code (3 : Nat) (Option.some Jvm.ClassFile.FieldType.int)) ∈ xT := xT_in 719 (by decide +kernel) rfl
theorem tw_720 : (Jvm.Cond.methodLink "UnitKitchens$Kitchen" (64 : Nat) ({ cls := "UnitKitchens$Meals", name := "oldest", desc := "(I)I" } : Jvm.MethodName)) ∈ xT := xT_in 720 (by decide +kernel) rfl
theorem tw_721 : (Jvm.Cond.instanceMethod ({ cls := "UnitKitchens$Meals", name := "oldest", desc := "(I)I" } : Jvm.MethodName)) ∈ xT := xT_in 721 (by decide +kernel) rfl
theorem tw_722 : (Jvm.Cond.selects "UnitKitchens$Meals" ({ cls := "UnitKitchens$Meals", name := "oldest", desc := "(I)I" } : Jvm.MethodName) ({ cls := "UnitKitchens$Meals", name := "oldest", desc := "(I)I" } : Jvm.MethodName)) ∈ xT := xT_in 722 (by decide +kernel) rfl
theorem tw_723 : (Jvm.Cond.code ({ cls := "UnitKitchens$Meals", name := "oldest", desc := "(I)I" } : Jvm.MethodName) prog_5_method_12_code (4 : Nat) (Option.some Jvm.ClassFile.FieldType.int)) ∈ xT := xT_in 723 (by decide +kernel) rfl
theorem tw_724 : (Jvm.Cond.methodLink "UnitKitchensLaw" (88 : Nat) ({ cls := "UnitKitchens", name := "lorry", desc := "(II)I" } : Jvm.MethodName)) ∈ xT := xT_in 724 (by decide +kernel) rfl
theorem tw_725 : (Jvm.Cond.instanceMethod ({ cls := "UnitKitchens", name := "lorry", desc := "(II)I" } : Jvm.MethodName)) ∈ xT := xT_in 725 (by decide +kernel) rfl
theorem tw_726 : (Jvm.Cond.selects "UnitKitchens" ({ cls := "UnitKitchens", name := "lorry", desc := "(II)I" } : Jvm.MethodName) ({ cls := "UnitKitchens", name := "lorry", desc := "(II)I" } : Jvm.MethodName)) ∈ xT := xT_in 726 (by decide +kernel) rfl
theorem tw_727 : (Jvm.Cond.code ({ cls := "UnitKitchens", name := "lorry", desc := "(II)I" } : Jvm.MethodName) prog_1_method_25_code (3 : Nat) (Option.some Jvm.ClassFile.FieldType.int)) ∈ xT := xT_in 727 (by decide +kernel) rfl
theorem tw_728 : (Jvm.Cond.methodLink "UnitKitchens" (255 : Nat) ({ cls := "UnitKitchens$Lorry", name := "property", desc := "(II)I" } : Jvm.MethodName)) ∈ xT := xT_in 728 (by decide +kernel) rfl
theorem tw_729 : (Jvm.Cond.instanceMethod ({ cls := "UnitKitchens$Lorry", name := "property", desc := "(II)I" } : Jvm.MethodName)) ∈ xT := xT_in 729 (by decide +kernel) rfl
theorem tw_730 : (Jvm.Cond.selects "UnitKitchens$Lorry" ({ cls := "UnitKitchens$Lorry", name := "property", desc := "(II)I" } : Jvm.MethodName) ({ cls := "UnitKitchens$Lorry", name := "property", desc := "(II)I" } : Jvm.MethodName)) ∈ xT := xT_in 730 (by decide +kernel) rfl
theorem tw_731 : (Jvm.Cond.code ({ cls := "UnitKitchens$Lorry", name := "property", desc := "(II)I" } : Jvm.MethodName) prog_4_method_4_code (3 : Nat) (Option.some Jvm.ClassFile.FieldType.int)) ∈ xT := xT_in 731 (by decide +kernel) rfl
theorem tw_732 : (Jvm.Cond.methodLink "UnitKitchens$Lorry" (42 : Nat) ({ cls := "UnitKitchens$Meals", name := "oldest", desc := "(I)I" } : Jvm.MethodName)) ∈ xT := xT_in 732 (by decide +kernel) rfl
theorem tw_733 : (Jvm.Cond.methodLink "UnitKitchensLaw" (91 : Nat) ({ cls := "UnitKitchens", name := "count", desc := "(I)I" } : Jvm.MethodName)) ∈ xT := xT_in 733 (by decide +kernel) rfl
theorem tw_734 : (Jvm.Cond.instanceMethod ({ cls := "UnitKitchens", name := "count", desc := "(I)I" } : Jvm.MethodName)) ∈ xT := xT_in 734 (by decide +kernel) rfl
theorem tw_735 : (Jvm.Cond.selects "UnitKitchens" ({ cls := "UnitKitchens", name := "count", desc := "(I)I" } : Jvm.MethodName) ({ cls := "UnitKitchens", name := "count", desc := "(I)I" } : Jvm.MethodName)) ∈ xT := xT_in 735 (by decide +kernel) rfl
theorem tw_736 : (Jvm.Cond.code ({ cls := "UnitKitchens", name := "count", desc := "(I)I" } : Jvm.MethodName) prog_1_method_26_code (2 : Nat) (Option.some Jvm.ClassFile.FieldType.int)) ∈ xT := xT_in 736 (by decide +kernel) rfl
theorem tw_737 : (Jvm.Cond.methodLink "UnitKitchens" (256 : Nat) ({ cls := "UnitKitchens$Film", name := "workingUnits", desc := "()I" } : Jvm.MethodName)) ∈ xT := xT_in 737 (by decide +kernel) rfl
theorem tw_738 : (Jvm.Cond.instanceMethod ({ cls := "UnitKitchens$Film", name := "workingUnits", desc := "()I" } : Jvm.MethodName)) ∈ xT := xT_in 738 (by decide +kernel) rfl
theorem tw_739 : (Jvm.Cond.selects "UnitKitchens$Film" ({ cls := "UnitKitchens$Film", name := "workingUnits", desc := "()I" } : Jvm.MethodName) ({ cls := "UnitKitchens$Film", name := "workingUnits", desc := "()I" } : Jvm.MethodName)) ∈ xT := xT_in 739 (by decide +kernel) rfl
theorem tw_740 : (Jvm.Cond.code ({ cls := "UnitKitchens$Film", name := "workingUnits", desc := "()I" } : Jvm.MethodName) prog_2_method_24_code (3 : Nat) (Option.some Jvm.ClassFile.FieldType.int)) ∈ xT := xT_in 740 (by decide +kernel) rfl
theorem tw_741 : (Jvm.Cond.methodLink "UnitKitchens" (259 : Nat) ({ cls := "UnitKitchens$Film", name := "people", desc := "()I" } : Jvm.MethodName)) ∈ xT := xT_in 741 (by decide +kernel) rfl
theorem tw_742 : (Jvm.Cond.instanceMethod ({ cls := "UnitKitchens$Film", name := "people", desc := "()I" } : Jvm.MethodName)) ∈ xT := xT_in 742 (by decide +kernel) rfl
theorem tw_743 : (Jvm.Cond.selects "UnitKitchens$Film" ({ cls := "UnitKitchens$Film", name := "people", desc := "()I" } : Jvm.MethodName) ({ cls := "UnitKitchens$Film", name := "people", desc := "()I" } : Jvm.MethodName)) ∈ xT := xT_in 743 (by decide +kernel) rfl
theorem tw_744 : (Jvm.Cond.code ({ cls := "UnitKitchens$Film", name := "people", desc := "()I" } : Jvm.MethodName) prog_2_method_25_code (3 : Nat) (Option.some Jvm.ClassFile.FieldType.int)) ∈ xT := xT_in 744 (by decide +kernel) rfl
theorem tw_745 : (Jvm.Cond.methodLink "UnitKitchens" (261 : Nat) ({ cls := "UnitKitchens$Film", name := "cooked", desc := "()I" } : Jvm.MethodName)) ∈ xT := xT_in 745 (by decide +kernel) rfl
theorem tw_746 : (Jvm.Cond.instanceMethod ({ cls := "UnitKitchens$Film", name := "cooked", desc := "()I" } : Jvm.MethodName)) ∈ xT := xT_in 746 (by decide +kernel) rfl
theorem tw_747 : (Jvm.Cond.selects "UnitKitchens$Film" ({ cls := "UnitKitchens$Film", name := "cooked", desc := "()I" } : Jvm.MethodName) ({ cls := "UnitKitchens$Film", name := "cooked", desc := "()I" } : Jvm.MethodName)) ∈ xT := xT_in 747 (by decide +kernel) rfl
theorem tw_748 : (Jvm.Cond.code ({ cls := "UnitKitchens$Film", name := "cooked", desc := "()I" } : Jvm.MethodName) prog_2_method_26_code (3 : Nat) (Option.some Jvm.ClassFile.FieldType.int)) ∈ xT := xT_in 748 (by decide +kernel) rfl
theorem tw_749 : (Jvm.Cond.methodLink "UnitKitchens" (264 : Nat) ({ cls := "UnitKitchens$Film", name := "thrown", desc := "()I" } : Jvm.MethodName)) ∈ xT := xT_in 749 (by decide +kernel) rfl
theorem tw_750 : (Jvm.Cond.instanceMethod ({ cls := "UnitKitchens$Film", name := "thrown", desc := "()I" } : Jvm.MethodName)) ∈ xT := xT_in 750 (by decide +kernel) rfl
theorem tw_751 : (Jvm.Cond.selects "UnitKitchens$Film" ({ cls := "UnitKitchens$Film", name := "thrown", desc := "()I" } : Jvm.MethodName) ({ cls := "UnitKitchens$Film", name := "thrown", desc := "()I" } : Jvm.MethodName)) ∈ xT := xT_in 751 (by decide +kernel) rfl
theorem tw_752 : (Jvm.Cond.code ({ cls := "UnitKitchens$Film", name := "thrown", desc := "()I" } : Jvm.MethodName) prog_2_method_28_code (3 : Nat) (Option.some Jvm.ClassFile.FieldType.int)) ∈ xT := xT_in 752 (by decide +kernel) rfl
theorem tw_753 : (Jvm.Cond.methodLink "UnitKitchens" (267 : Nat) ({ cls := "UnitKitchens$Film", name := "mealsInKitchens", desc := "()I" } : Jvm.MethodName)) ∈ xT := xT_in 753 (by decide +kernel) rfl
theorem tw_754 : (Jvm.Cond.instanceMethod ({ cls := "UnitKitchens$Film", name := "mealsInKitchens", desc := "()I" } : Jvm.MethodName)) ∈ xT := xT_in 754 (by decide +kernel) rfl
theorem tw_755 : (Jvm.Cond.selects "UnitKitchens$Film" ({ cls := "UnitKitchens$Film", name := "mealsInKitchens", desc := "()I" } : Jvm.MethodName) ({ cls := "UnitKitchens$Film", name := "mealsInKitchens", desc := "()I" } : Jvm.MethodName)) ∈ xT := xT_in 755 (by decide +kernel) rfl
theorem tw_756 : (Jvm.Cond.code ({ cls := "UnitKitchens$Film", name := "mealsInKitchens", desc := "()I" } : Jvm.MethodName) prog_2_method_29_code (3 : Nat) (Option.some Jvm.ClassFile.FieldType.int)) ∈ xT := xT_in 756 (by decide +kernel) rfl
theorem tw_757 : (Jvm.Cond.methodLink "UnitKitchens$Film" (219 : Nat) ({ cls := "UnitKitchens$Meals", name := "inAll", desc := "()I" } : Jvm.MethodName)) ∈ xT := xT_in 757 (by decide +kernel) rfl
theorem tw_758 : (Jvm.Cond.methodLink "UnitKitchens" (270 : Nat) ({ cls := "UnitKitchens$Film", name := "mealsInLorries", desc := "()I" } : Jvm.MethodName)) ∈ xT := xT_in 758 (by decide +kernel) rfl
theorem tw_759 : (Jvm.Cond.instanceMethod ({ cls := "UnitKitchens$Film", name := "mealsInLorries", desc := "()I" } : Jvm.MethodName)) ∈ xT := xT_in 759 (by decide +kernel) rfl
theorem tw_760 : (Jvm.Cond.selects "UnitKitchens$Film" ({ cls := "UnitKitchens$Film", name := "mealsInLorries", desc := "()I" } : Jvm.MethodName) ({ cls := "UnitKitchens$Film", name := "mealsInLorries", desc := "()I" } : Jvm.MethodName)) ∈ xT := xT_in 760 (by decide +kernel) rfl
theorem tw_761 : (Jvm.Cond.code ({ cls := "UnitKitchens$Film", name := "mealsInLorries", desc := "()I" } : Jvm.MethodName) prog_2_method_30_code (3 : Nat) (Option.some Jvm.ClassFile.FieldType.int)) ∈ xT := xT_in 761 (by decide +kernel) rfl
theorem tw_762 : (Jvm.Cond.methodLink "UnitKitchens" (276 : Nat) ({ cls := "UnitKitchens$Film", name := "owed", desc := "()I" } : Jvm.MethodName)) ∈ xT := xT_in 762 (by decide +kernel) rfl
theorem tw_763 : (Jvm.Cond.instanceMethod ({ cls := "UnitKitchens$Film", name := "owed", desc := "()I" } : Jvm.MethodName)) ∈ xT := xT_in 763 (by decide +kernel) rfl
theorem tw_764 : (Jvm.Cond.selects "UnitKitchens$Film" ({ cls := "UnitKitchens$Film", name := "owed", desc := "()I" } : Jvm.MethodName) ({ cls := "UnitKitchens$Film", name := "owed", desc := "()I" } : Jvm.MethodName)) ∈ xT := xT_in 764 (by decide +kernel) rfl
theorem tw_765 : (Jvm.Cond.code ({ cls := "UnitKitchens$Film", name := "owed", desc := "()I" } : Jvm.MethodName) prog_2_method_31_code (3 : Nat) (Option.some Jvm.ClassFile.FieldType.int)) ∈ xT := xT_in 765 (by decide +kernel) rfl
theorem tw_766 : (Jvm.Cond.methodLink "UnitKitchens" (277 : Nat) ({ cls := "UnitKitchens$Film", name := "cancelled", desc := "()I" } : Jvm.MethodName)) ∈ xT := xT_in 766 (by decide +kernel) rfl
theorem tw_767 : (Jvm.Cond.instanceMethod ({ cls := "UnitKitchens$Film", name := "cancelled", desc := "()I" } : Jvm.MethodName)) ∈ xT := xT_in 767 (by decide +kernel) rfl
theorem tw_768 : (Jvm.Cond.selects "UnitKitchens$Film" ({ cls := "UnitKitchens$Film", name := "cancelled", desc := "()I" } : Jvm.MethodName) ({ cls := "UnitKitchens$Film", name := "cancelled", desc := "()I" } : Jvm.MethodName)) ∈ xT := xT_in 768 (by decide +kernel) rfl
theorem tw_769 : (Jvm.Cond.code ({ cls := "UnitKitchens$Film", name := "cancelled", desc := "()I" } : Jvm.MethodName) prog_2_method_32_code (3 : Nat) (Option.some Jvm.ClassFile.FieldType.int)) ∈ xT := xT_in 769 (by decide +kernel) rfl
theorem tw_770 : (Jvm.Cond.methodLink "UnitKitchens" (279 : Nat) ({ cls := "UnitKitchens$Film", name := "penalties", desc := "()I" } : Jvm.MethodName)) ∈ xT := xT_in 770 (by decide +kernel) rfl
theorem tw_771 : (Jvm.Cond.instanceMethod ({ cls := "UnitKitchens$Film", name := "penalties", desc := "()I" } : Jvm.MethodName)) ∈ xT := xT_in 771 (by decide +kernel) rfl
theorem tw_772 : (Jvm.Cond.selects "UnitKitchens$Film" ({ cls := "UnitKitchens$Film", name := "penalties", desc := "()I" } : Jvm.MethodName) ({ cls := "UnitKitchens$Film", name := "penalties", desc := "()I" } : Jvm.MethodName)) ∈ xT := xT_in 772 (by decide +kernel) rfl
theorem tw_773 : (Jvm.Cond.code ({ cls := "UnitKitchens$Film", name := "penalties", desc := "()I" } : Jvm.MethodName) prog_2_method_33_code (3 : Nat) (Option.some Jvm.ClassFile.FieldType.int)) ∈ xT := xT_in 773 (by decide +kernel) rfl
theorem tp_0 : Cond.selects "java/lang/Throwable" ⟨"java/lang/Throwable", "fillInStackTrace", "(I)Ljava/lang/Throwable;"⟩ ⟨"java/lang/Throwable", "fillInStackTrace", "(I)Ljava/lang/Throwable;"⟩ ∈ xT := xT_inp 0 (by decide +kernel) rfl
