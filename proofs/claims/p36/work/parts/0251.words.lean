/-! words of the tables, by their places -/
theorem tw_0 : (Jvm.Cond.initialized "UnitKitchensLaw") ∈ xT := xT_in 0 (by decide +kernel) rfl
theorem tw_1 : (Jvm.Cond.initialized "UnitKitchens") ∈ xT := xT_in 1 (by decide +kernel) rfl
theorem tw_2 : (Jvm.Cond.initialized "UnitKitchens$Film") ∈ xT := xT_in 2 (by decide +kernel) rfl
theorem tw_3 : (Jvm.Cond.initialized "UnitKitchens$Kitchen") ∈ xT := xT_in 3 (by decide +kernel) rfl
theorem tw_4 : (Jvm.Cond.initialized "UnitKitchens$Meals") ∈ xT := xT_in 4 (by decide +kernel) rfl
theorem tw_5 : (Jvm.Cond.initialized "UnitKitchens$Lorry") ∈ xT := xT_in 5 (by decide +kernel) rfl
theorem tw_6 : (Jvm.Cond.initialized "UnitKitchens$Unit") ∈ xT := xT_in 6 (by decide +kernel) rfl
theorem tw_7 : (Jvm.Cond.initialized "UnitKitchens$SavedFilms") ∈ xT := xT_in 7 (by decide +kernel) rfl
theorem tw_8 : (Jvm.Cond.initialized "UnitKitchens$SheetReader") ∈ xT := xT_in 8 (by decide +kernel) rfl
theorem tw_9 : (Jvm.Cond.initialized "java/lang/Throwable") ∈ xT := xT_in 9 (by decide +kernel) rfl
theorem tw_10 : (Jvm.Cond.initialized "java/lang/Exception") ∈ xT := xT_in 10 (by decide +kernel) rfl
theorem tw_11 : (Jvm.Cond.initialized "java/lang/RuntimeException") ∈ xT := xT_in 11 (by decide +kernel) rfl
theorem tw_12 : (Jvm.Cond.initialized "java/lang/IllegalArgumentException") ∈ xT := xT_in 12 (by decide +kernel) rfl
theorem tw_13 : (Jvm.Cond.initialized "java/lang/IllegalStateException") ∈ xT := xT_in 13 (by decide +kernel) rfl
theorem tw_14 : (Jvm.Cond.initialized "java/lang/System") ∈ xT := xT_in 14 (by decide +kernel) rfl
theorem tw_15 : (Jvm.Cond.initialized "java/lang/Math") ∈ xT := xT_in 15 (by decide +kernel) rfl
theorem tw_16 : (Jvm.Cond.initialized "java/lang/IndexOutOfBoundsException") ∈ xT := xT_in 16 (by decide +kernel) rfl
theorem tw_17 : (Jvm.Cond.classLink "UnitKitchensLaw" (39 : Nat) "UnitKitchens") ∈ xT := xT_in 17 (by decide +kernel) rfl
theorem tw_18 : (Jvm.Cond.instantiable "UnitKitchens" (6 : Nat)) ∈ xT := xT_in 18 (by decide +kernel) rfl
theorem tw_19 : (Jvm.Cond.methodLink "UnitKitchensLaw" (94 : Nat) ({ cls := "UnitKitchens", name := "<init>", desc := "()V" } : Jvm.MethodName)) ∈ xT := xT_in 19 (by decide +kernel) rfl
theorem tw_20 : (Jvm.Cond.instanceMethod ({ cls := "UnitKitchens", name := "<init>", desc := "()V" } : Jvm.MethodName)) ∈ xT := xT_in 20 (by decide +kernel) rfl
theorem tw_21 : (Jvm.Cond.code ({ cls := "UnitKitchens", name := "<init>", desc := "()V" } : Jvm.MethodName) prog_1_method_1_code (1 : Nat) (Option.none : Option Jvm.ClassFile.FieldType)) ∈ xT := xT_in 21 (by decide +kernel) rfl
theorem tw_22 : (Jvm.Cond.methodLink "UnitKitchens" (1 : Nat) ({ cls := "java/lang/Object", name := "<init>", desc := "()V" } : Jvm.MethodName)) ∈ xT := xT_in 22 (by decide +kernel) rfl
theorem tw_23 : (Jvm.Cond.instanceMethod ({ cls := "java/lang/Object", name := "<init>", desc := "()V" } : Jvm.MethodName)) ∈ xT := xT_in 23 (by decide +kernel) rfl
theorem tw_24 : (Jvm.Cond.code ({ cls := "java/lang/Object", name := "<init>", desc := "()V" } : Jvm.MethodName) object_method_1_code (1 : Nat) (Option.none : Option Jvm.ClassFile.FieldType)) ∈ xT := xT_in 24 (by decide +kernel) rfl
theorem tw_25 : (Jvm.Cond.classLink "UnitKitchens" (7 : Nat) "UnitKitchens$Film") ∈ xT := xT_in 25 (by decide +kernel) rfl
theorem tw_26 : (Jvm.Cond.instantiable "UnitKitchens$Film" (12 : Nat)) ∈ xT := xT_in 26 (by decide +kernel) rfl
theorem tw_27 : (Jvm.Cond.methodLink "UnitKitchens" (9 : Nat) ({ cls := "UnitKitchens$Film", name := "<init>", desc := "()V" } : Jvm.MethodName)) ∈ xT := xT_in 27 (by decide +kernel) rfl
theorem tw_28 : (Jvm.Cond.instanceMethod ({ cls := "UnitKitchens$Film", name := "<init>", desc := "()V" } : Jvm.MethodName)) ∈ xT := xT_in 28 (by decide +kernel) rfl
theorem tw_29 : (Jvm.Cond.code ({ cls := "UnitKitchens$Film", name := "<init>", desc := "()V" } : Jvm.MethodName) prog_2_method_1_code (2 : Nat) (Option.none : Option Jvm.ClassFile.FieldType)) ∈ xT := xT_in 29 (by decide +kernel) rfl
theorem tw_30 : (Jvm.Cond.methodLink "UnitKitchens$Film" (3 : Nat) ({ cls := "java/lang/Object", name := "<init>", desc := "()V" } : Jvm.MethodName)) ∈ xT := xT_in 30 (by decide +kernel) rfl
theorem tw_33 : (Jvm.Cond.methodLink "UnitKitchens$Film" (13 : Nat) ({ cls := "[I", name := "clone", desc := "()Ljava/lang/Object;" } : Jvm.MethodName)) ∈ xT := xT_in 33 (by decide +kernel) rfl
theorem tw_35 : (Jvm.Cond.native ({ cls := "java/lang/Object", name := "clone", desc := "()Ljava/lang/Object;" } : Jvm.MethodName)) ∈ xT := xT_in 35 (by decide +kernel) rfl
theorem tw_36 : (Jvm.Cond.instanceMethod ({ cls := "java/lang/Object", name := "clone", desc := "()Ljava/lang/Object;" } : Jvm.MethodName)) ∈ xT := xT_in 36 (by decide +kernel) rfl
theorem tw_37 : (Jvm.Cond.selects "[I" ({ cls := "[I", name := "clone", desc := "()Ljava/lang/Object;" } : Jvm.MethodName) ({ cls := "java/lang/Object", name := "clone", desc := "()Ljava/lang/Object;" } : Jvm.MethodName)) ∈ xT := xT_in 37 (by decide +kernel) rfl
theorem tw_39 : (Jvm.Cond.classLink "UnitKitchens$Film" (14 : Nat) "[I") ∈ xT := xT_in 39 (by decide +kernel) rfl
theorem tw_40 : (Jvm.Cond.classLink "UnitKitchens$Film" (29 : Nat) "UnitKitchens$Kitchen") ∈ xT := xT_in 40 (by decide +kernel) rfl
theorem tw_42 : (Jvm.Cond.classLink "UnitKitchens$Film" (35 : Nat) "UnitKitchens$Lorry") ∈ xT := xT_in 42 (by decide +kernel) rfl
theorem tw_44 : (Jvm.Cond.classLink "UnitKitchens$Film" (41 : Nat) "UnitKitchens$Unit") ∈ xT := xT_in 44 (by decide +kernel) rfl
theorem tw_46 : (Jvm.Cond.instantiable "UnitKitchens$Kitchen" (7 : Nat)) ∈ xT := xT_in 46 (by decide +kernel) rfl
theorem tw_48 : (Jvm.Cond.instanceMethod ({ cls := "UnitKitchens$Kitchen", name := "<init>", desc := "()V" } : Jvm.MethodName)) ∈ xT := xT_in 48 (by decide +kernel) rfl
theorem tw_49 : (Jvm.Cond.code ({ cls := "UnitKitchens$Kitchen", name := "<init>", desc := "()V" } : Jvm.MethodName) prog_3_method_1_code (1 : Nat) (Option.none : Option Jvm.ClassFile.FieldType)) ∈ xT := xT_in 49 (by decide +kernel) rfl
theorem tw_50 : (Jvm.Cond.methodLink "UnitKitchens$Kitchen" (3 : Nat) ({ cls := "java/lang/Object", name := "<init>", desc := "()V" } : Jvm.MethodName)) ∈ xT := xT_in 50 (by decide +kernel) rfl
theorem tw_51 : (Jvm.Cond.classLink "UnitKitchens$Kitchen" (19 : Nat) "UnitKitchens$Meals") ∈ xT := xT_in 51 (by decide +kernel) rfl
theorem tw_52 : (Jvm.Cond.instantiable "UnitKitchens$Meals" (2 : Nat)) ∈ xT := xT_in 52 (by decide +kernel) rfl
theorem tw_54 : (Jvm.Cond.instanceMethod ({ cls := "UnitKitchens$Meals", name := "<init>", desc := "()V" } : Jvm.MethodName)) ∈ xT := xT_in 54 (by decide +kernel) rfl
theorem tw_55 : (Jvm.Cond.code ({ cls := "UnitKitchens$Meals", name := "<init>", desc := "()V" } : Jvm.MethodName) prog_5_method_1_code (1 : Nat) (Option.none : Option Jvm.ClassFile.FieldType)) ∈ xT := xT_in 55 (by decide +kernel) rfl
theorem tw_56 : (Jvm.Cond.methodLink "UnitKitchens$Meals" (3 : Nat) ({ cls := "java/lang/Object", name := "<init>", desc := "()V" } : Jvm.MethodName)) ∈ xT := xT_in 56 (by decide +kernel) rfl
theorem tw_57 : (Jvm.Cond.fieldLink "UnitKitchens$Meals" (11 : Nat) "UnitKitchens$Meals" "cookedIn" "[I") ∈ xT := xT_in 57 (by decide +kernel) rfl
theorem tw_58 : (Jvm.Cond.fieldLink "UnitKitchens$Meals" (15 : Nat) "UnitKitchens$Meals" "ofDish" "[I") ∈ xT := xT_in 58 (by decide +kernel) rfl
theorem tw_59 : (Jvm.Cond.fieldLink "UnitKitchens$Lorry" (38 : Nat) "UnitKitchens$Meals" "ofDish" "[I") ∈ xT := xT_in 59 (by decide +kernel) rfl
theorem tw_60 : (Jvm.Cond.fieldLink "UnitKitchens$Kitchen" (61 : Nat) "UnitKitchens$Meals" "ofDish" "[I") ∈ xT := xT_in 60 (by decide +kernel) rfl
theorem tw_61 : (Jvm.Cond.fieldLink "UnitKitchens" (122 : Nat) "UnitKitchens$Meals" "ofDish" "[I") ∈ xT := xT_in 61 (by decide +kernel) rfl
theorem tw_62 : (Jvm.Cond.laysFinal "UnitKitchens$Meals" "UnitKitchens$Meals" "cookedIn" "[I") ∈ xT := xT_in 62 (by decide +kernel) rfl
theorem tw_64 : (Jvm.Cond.laysFinal "UnitKitchens$Meals" "UnitKitchens$Meals" "ofDish" "[I") ∈ xT := xT_in 64 (by decide +kernel) rfl
theorem tw_67 : (Jvm.Cond.arrayClass Jvm.ClassFile.FieldType.int) ∈ xT := xT_in 67 (by decide +kernel) rfl
theorem tw_68 : (Jvm.Cond.fieldLink "UnitKitchens$Kitchen" (26 : Nat) "UnitKitchens$Kitchen" "place" "I") ∈ xT := xT_in 68 (by decide +kernel) rfl
theorem tw_69 : (Jvm.Cond.fieldLink "UnitKitchens$Film" (85 : Nat) "UnitKitchens$Kitchen" "place" "I") ∈ xT := xT_in 69 (by decide +kernel) rfl
theorem tw_70 : (Jvm.Cond.fieldLink "UnitKitchens" (117 : Nat) "UnitKitchens$Kitchen" "place" "I") ∈ xT := xT_in 70 (by decide +kernel) rfl
theorem tw_71 : (Jvm.Cond.fieldLink "UnitKitchens$Kitchen" (9 : Nat) "UnitKitchens$Kitchen" "store" "[I") ∈ xT := xT_in 71 (by decide +kernel) rfl
theorem tw_72 : (Jvm.Cond.fieldLink "UnitKitchens" (91 : Nat) "UnitKitchens$Kitchen" "store" "[I") ∈ xT := xT_in 72 (by decide +kernel) rfl
theorem tw_73 : (Jvm.Cond.fieldLink "UnitKitchens$Kitchen" (15 : Nat) "UnitKitchens$Kitchen" "potDish" "I") ∈ xT := xT_in 73 (by decide +kernel) rfl
theorem tw_74 : (Jvm.Cond.fieldLink "UnitKitchens$Kitchen" (35 : Nat) "UnitKitchens$Kitchen" "potMeals" "I") ∈ xT := xT_in 74 (by decide +kernel) rfl
theorem tw_75 : (Jvm.Cond.fieldLink "UnitKitchens" (96 : Nat) "UnitKitchens$Kitchen" "potMeals" "I") ∈ xT := xT_in 75 (by decide +kernel) rfl
theorem tw_76 : (Jvm.Cond.fieldLink "UnitKitchens$Kitchen" (22 : Nat) "UnitKitchens$Kitchen" "meals" "LUnitKitchens$Meals;") ∈ xT := xT_in 76 (by decide +kernel) rfl
theorem tw_77 : (Jvm.Cond.fieldLink "UnitKitchens" (118 : Nat) "UnitKitchens$Kitchen" "meals" "LUnitKitchens$Meals;") ∈ xT := xT_in 77 (by decide +kernel) rfl
theorem tw_78 : (Jvm.Cond.fieldLink "UnitKitchens$Film" (130 : Nat) "UnitKitchens$Kitchen" "meals" "LUnitKitchens$Meals;") ∈ xT := xT_in 78 (by decide +kernel) rfl
theorem tw_79 : (Jvm.Cond.fieldLink "UnitKitchens$Kitchen" (42 : Nat) "UnitKitchens$Kitchen" "cooked" "I") ∈ xT := xT_in 79 (by decide +kernel) rfl
theorem tw_80 : (Jvm.Cond.fieldLink "UnitKitchens$Film" (222 : Nat) "UnitKitchens$Kitchen" "cooked" "I") ∈ xT := xT_in 80 (by decide +kernel) rfl
theorem tw_81 : (Jvm.Cond.fieldLink "UnitKitchens$Kitchen" (45 : Nat) "UnitKitchens$Kitchen" "thrown" "I") ∈ xT := xT_in 81 (by decide +kernel) rfl
theorem tw_82 : (Jvm.Cond.fieldLink "UnitKitchens$Film" (127 : Nat) "UnitKitchens$Kitchen" "thrown" "I") ∈ xT := xT_in 82 (by decide +kernel) rfl
theorem tw_83 : (Jvm.Cond.lays "UnitKitchens$Kitchen" "UnitKitchens$Kitchen" "place" "I") ∈ xT := xT_in 83 (by decide +kernel) rfl
theorem tw_85 : (Jvm.Cond.laysFinal "UnitKitchens$Kitchen" "UnitKitchens$Kitchen" "store" "[I") ∈ xT := xT_in 85 (by decide +kernel) rfl
theorem tw_87 : (Jvm.Cond.lays "UnitKitchens$Kitchen" "UnitKitchens$Kitchen" "potDish" "I") ∈ xT := xT_in 87 (by decide +kernel) rfl
theorem tw_89 : (Jvm.Cond.lays "UnitKitchens$Kitchen" "UnitKitchens$Kitchen" "potMeals" "I") ∈ xT := xT_in 89 (by decide +kernel) rfl
theorem tw_91 : (Jvm.Cond.laysFinal "UnitKitchens$Kitchen" "UnitKitchens$Kitchen" "meals" "LUnitKitchens$Meals;") ∈ xT := xT_in 91 (by decide +kernel) rfl
theorem tw_93 : (Jvm.Cond.lays "UnitKitchens$Kitchen" "UnitKitchens$Kitchen" "cooked" "I") ∈ xT := xT_in 93 (by decide +kernel) rfl
theorem tw_95 : (Jvm.Cond.lays "UnitKitchens$Kitchen" "UnitKitchens$Kitchen" "thrown" "I") ∈ xT := xT_in 95 (by decide +kernel) rfl
theorem tw_98 : (Jvm.Cond.instantiable "UnitKitchens$Lorry" (6 : Nat)) ∈ xT := xT_in 98 (by decide +kernel) rfl
theorem tw_100 : (Jvm.Cond.instanceMethod ({ cls := "UnitKitchens$Lorry", name := "<init>", desc := "()V" } : Jvm.MethodName)) ∈ xT := xT_in 100 (by decide +kernel) rfl
theorem tw_101 : (Jvm.Cond.code ({ cls := "UnitKitchens$Lorry", name := "<init>", desc := "()V" } : Jvm.MethodName) prog_4_method_1_code (1 : Nat) (Option.none : Option Jvm.ClassFile.FieldType)) ∈ xT := xT_in 101 (by decide +kernel) rfl
theorem tw_102 : (Jvm.Cond.methodLink "UnitKitchens$Lorry" (3 : Nat) ({ cls := "java/lang/Object", name := "<init>", desc := "()V" } : Jvm.MethodName)) ∈ xT := xT_in 102 (by decide +kernel) rfl
theorem tw_103 : (Jvm.Cond.classLink "UnitKitchens$Lorry" (18 : Nat) "UnitKitchens$Meals") ∈ xT := xT_in 103 (by decide +kernel) rfl
theorem tw_105 : (Jvm.Cond.fieldLink "UnitKitchens$Lorry" (9 : Nat) "UnitKitchens$Lorry" "place" "I") ∈ xT := xT_in 105 (by decide +kernel) rfl
theorem tw_106 : (Jvm.Cond.fieldLink "UnitKitchens$Film" (88 : Nat) "UnitKitchens$Lorry" "place" "I") ∈ xT := xT_in 106 (by decide +kernel) rfl
theorem tw_107 : (Jvm.Cond.fieldLink "UnitKitchens" (112 : Nat) "UnitKitchens$Lorry" "place" "I") ∈ xT := xT_in 107 (by decide +kernel) rfl
theorem tw_108 : (Jvm.Cond.fieldLink "UnitKitchens$Lorry" (15 : Nat) "UnitKitchens$Lorry" "target" "I") ∈ xT := xT_in 108 (by decide +kernel) rfl
theorem tw_109 : (Jvm.Cond.fieldLink "UnitKitchens" (145 : Nat) "UnitKitchens$Lorry" "target" "I") ∈ xT := xT_in 109 (by decide +kernel) rfl
theorem tw_110 : (Jvm.Cond.fieldLink "UnitKitchens$Lorry" (25 : Nat) "UnitKitchens$Lorry" "left" "I") ∈ xT := xT_in 110 (by decide +kernel) rfl
theorem tw_111 : (Jvm.Cond.fieldLink "UnitKitchens" (142 : Nat) "UnitKitchens$Lorry" "left" "I") ∈ xT := xT_in 111 (by decide +kernel) rfl
theorem tw_112 : (Jvm.Cond.fieldLink "UnitKitchens$Lorry" (21 : Nat) "UnitKitchens$Lorry" "meals" "LUnitKitchens$Meals;") ∈ xT := xT_in 112 (by decide +kernel) rfl
theorem tw_113 : (Jvm.Cond.fieldLink "UnitKitchens" (127 : Nat) "UnitKitchens$Lorry" "meals" "LUnitKitchens$Meals;") ∈ xT := xT_in 113 (by decide +kernel) rfl
theorem tw_114 : (Jvm.Cond.fieldLink "UnitKitchens$Film" (141 : Nat) "UnitKitchens$Lorry" "meals" "LUnitKitchens$Meals;") ∈ xT := xT_in 114 (by decide +kernel) rfl
theorem tw_115 : (Jvm.Cond.fieldLink "UnitKitchens$Lorry" (32 : Nat) "UnitKitchens$Lorry" "served" "I") ∈ xT := xT_in 115 (by decide +kernel) rfl
theorem tw_116 : (Jvm.Cond.fieldLink "UnitKitchens$Film" (173 : Nat) "UnitKitchens$Lorry" "served" "I") ∈ xT := xT_in 116 (by decide +kernel) rfl
theorem tw_117 : (Jvm.Cond.fieldLink "UnitKitchens$Lorry" (35 : Nat) "UnitKitchens$Lorry" "thrown" "I") ∈ xT := xT_in 117 (by decide +kernel) rfl
theorem tw_118 : (Jvm.Cond.fieldLink "UnitKitchens$Film" (140 : Nat) "UnitKitchens$Lorry" "thrown" "I") ∈ xT := xT_in 118 (by decide +kernel) rfl
theorem tw_119 : (Jvm.Cond.lays "UnitKitchens$Lorry" "UnitKitchens$Lorry" "place" "I") ∈ xT := xT_in 119 (by decide +kernel) rfl
theorem tw_121 : (Jvm.Cond.lays "UnitKitchens$Lorry" "UnitKitchens$Lorry" "target" "I") ∈ xT := xT_in 121 (by decide +kernel) rfl
theorem tw_123 : (Jvm.Cond.lays "UnitKitchens$Lorry" "UnitKitchens$Lorry" "left" "I") ∈ xT := xT_in 123 (by decide +kernel) rfl
theorem tw_125 : (Jvm.Cond.laysFinal "UnitKitchens$Lorry" "UnitKitchens$Lorry" "meals" "LUnitKitchens$Meals;") ∈ xT := xT_in 125 (by decide +kernel) rfl
theorem tw_127 : (Jvm.Cond.lays "UnitKitchens$Lorry" "UnitKitchens$Lorry" "served" "I") ∈ xT := xT_in 127 (by decide +kernel) rfl
theorem tw_129 : (Jvm.Cond.lays "UnitKitchens$Lorry" "UnitKitchens$Lorry" "thrown" "I") ∈ xT := xT_in 129 (by decide +kernel) rfl
theorem tw_132 : (Jvm.Cond.instantiable "UnitKitchens$Unit" (12 : Nat)) ∈ xT := xT_in 132 (by decide +kernel) rfl
theorem tw_134 : (Jvm.Cond.instanceMethod ({ cls := "UnitKitchens$Unit", name := "<init>", desc := "()V" } : Jvm.MethodName)) ∈ xT := xT_in 134 (by decide +kernel) rfl
theorem tw_135 : (Jvm.Cond.code ({ cls := "UnitKitchens$Unit", name := "<init>", desc := "()V" } : Jvm.MethodName) prog_8_method_1_code (1 : Nat) (Option.none : Option Jvm.ClassFile.FieldType)) ∈ xT := xT_in 135 (by decide +kernel) rfl
theorem tw_136 : (Jvm.Cond.methodLink "UnitKitchens$Unit" (3 : Nat) ({ cls := "java/lang/Object", name := "<init>", desc := "()V" } : Jvm.MethodName)) ∈ xT := xT_in 136 (by decide +kernel) rfl
theorem tw_137 : (Jvm.Cond.fieldLink "UnitKitchens$Unit" (9 : Nat) "UnitKitchens$Unit" "state" "I") ∈ xT := xT_in 137 (by decide +kernel) rfl
theorem tw_138 : (Jvm.Cond.fieldLink "UnitKitchens$Film" (142 : Nat) "UnitKitchens$Unit" "state" "I") ∈ xT := xT_in 138 (by decide +kernel) rfl
theorem tw_139 : (Jvm.Cond.fieldLink "UnitKitchens" (159 : Nat) "UnitKitchens$Unit" "state" "I") ∈ xT := xT_in 139 (by decide +kernel) rfl
theorem tw_140 : (Jvm.Cond.fieldLink "UnitKitchens$Unit" (18 : Nat) "UnitKitchens$Unit" "place" "I") ∈ xT := xT_in 140 (by decide +kernel) rfl
theorem tw_141 : (Jvm.Cond.fieldLink "UnitKitchens$Film" (89 : Nat) "UnitKitchens$Unit" "place" "I") ∈ xT := xT_in 141 (by decide +kernel) rfl
theorem tw_142 : (Jvm.Cond.fieldLink "UnitKitchens" (170 : Nat) "UnitKitchens$Unit" "place" "I") ∈ xT := xT_in 142 (by decide +kernel) rfl
theorem tw_143 : (Jvm.Cond.fieldLink "UnitKitchens$Unit" (21 : Nat) "UnitKitchens$Unit" "people" "I") ∈ xT := xT_in 143 (by decide +kernel) rfl
theorem tw_144 : (Jvm.Cond.fieldLink "UnitKitchens$Film" (90 : Nat) "UnitKitchens$Unit" "people" "I") ∈ xT := xT_in 144 (by decide +kernel) rfl
theorem tw_145 : (Jvm.Cond.fieldLink "UnitKitchens" (164 : Nat) "UnitKitchens$Unit" "people" "I") ∈ xT := xT_in 145 (by decide +kernel) rfl
theorem tw_146 : (Jvm.Cond.fieldLink "UnitKitchens$Unit" (24 : Nat) "UnitKitchens$Unit" "greens" "I") ∈ xT := xT_in 146 (by decide +kernel) rfl
theorem tw_147 : (Jvm.Cond.fieldLink "UnitKitchens$Film" (93 : Nat) "UnitKitchens$Unit" "greens" "I") ∈ xT := xT_in 147 (by decide +kernel) rfl
theorem tw_148 : (Jvm.Cond.fieldLink "UnitKitchens" (167 : Nat) "UnitKitchens$Unit" "greens" "I") ∈ xT := xT_in 148 (by decide +kernel) rfl
theorem tw_149 : (Jvm.Cond.fieldLink "UnitKitchens$Unit" (27 : Nat) "UnitKitchens$Unit" "nextCall" "I") ∈ xT := xT_in 149 (by decide +kernel) rfl
theorem tw_150 : (Jvm.Cond.fieldLink "UnitKitchens$Film" (96 : Nat) "UnitKitchens$Unit" "nextCall" "I") ∈ xT := xT_in 150 (by decide +kernel) rfl
theorem tw_151 : (Jvm.Cond.fieldLink "UnitKitchens" (171 : Nat) "UnitKitchens$Unit" "nextCall" "I") ∈ xT := xT_in 151 (by decide +kernel) rfl
theorem tw_152 : (Jvm.Cond.fieldLink "UnitKitchens$Unit" (30 : Nat) "UnitKitchens$Unit" "interval" "I") ∈ xT := xT_in 152 (by decide +kernel) rfl
theorem tw_153 : (Jvm.Cond.fieldLink "UnitKitchens$Film" (99 : Nat) "UnitKitchens$Unit" "interval" "I") ∈ xT := xT_in 153 (by decide +kernel) rfl
theorem tw_154 : (Jvm.Cond.fieldLink "UnitKitchens" (174 : Nat) "UnitKitchens$Unit" "interval" "I") ∈ xT := xT_in 154 (by decide +kernel) rfl
theorem tw_155 : (Jvm.Cond.fieldLink "UnitKitchens$Unit" (33 : Nat) "UnitKitchens$Unit" "owedGreens" "I") ∈ xT := xT_in 155 (by decide +kernel) rfl
theorem tw_156 : (Jvm.Cond.fieldLink "UnitKitchens$Film" (153 : Nat) "UnitKitchens$Unit" "owedGreens" "I") ∈ xT := xT_in 156 (by decide +kernel) rfl
theorem tw_157 : (Jvm.Cond.fieldLink "UnitKitchens$Unit" (36 : Nat) "UnitKitchens$Unit" "owedOthers" "I") ∈ xT := xT_in 157 (by decide +kernel) rfl
theorem tw_158 : (Jvm.Cond.fieldLink "UnitKitchens$Film" (163 : Nat) "UnitKitchens$Unit" "owedOthers" "I") ∈ xT := xT_in 158 (by decide +kernel) rfl
theorem tw_159 : (Jvm.Cond.fieldLink "UnitKitchens$Unit" (15 : Nat) "UnitKitchens$Unit" "owedSince" "I") ∈ xT := xT_in 159 (by decide +kernel) rfl
theorem tw_160 : (Jvm.Cond.fieldLink "UnitKitchens$Unit" (39 : Nat) "UnitKitchens$Unit" "served" "I") ∈ xT := xT_in 160 (by decide +kernel) rfl
theorem tw_161 : (Jvm.Cond.fieldLink "UnitKitchens$Film" (225 : Nat) "UnitKitchens$Unit" "served" "I") ∈ xT := xT_in 161 (by decide +kernel) rfl
theorem tw_162 : (Jvm.Cond.fieldLink "UnitKitchens$Unit" (42 : Nat) "UnitKitchens$Unit" "penalty" "I") ∈ xT := xT_in 162 (by decide +kernel) rfl
theorem tw_163 : (Jvm.Cond.fieldLink "UnitKitchens$Film" (181 : Nat) "UnitKitchens$Unit" "penalty" "I") ∈ xT := xT_in 163 (by decide +kernel) rfl
theorem tw_164 : (Jvm.Cond.fieldLink "UnitKitchens$Unit" (45 : Nat) "UnitKitchens$Unit" "cancelled" "I") ∈ xT := xT_in 164 (by decide +kernel) rfl
theorem tw_165 : (Jvm.Cond.fieldLink "UnitKitchens" (195 : Nat) "UnitKitchens$Unit" "cancelled" "I") ∈ xT := xT_in 165 (by decide +kernel) rfl
theorem tw_166 : (Jvm.Cond.fieldLink "UnitKitchens$Film" (226 : Nat) "UnitKitchens$Unit" "cancelled" "I") ∈ xT := xT_in 166 (by decide +kernel) rfl
theorem tw_167 : (Jvm.Cond.lays "UnitKitchens$Unit" "UnitKitchens$Unit" "state" "I") ∈ xT := xT_in 167 (by decide +kernel) rfl
theorem tw_169 : (Jvm.Cond.lays "UnitKitchens$Unit" "UnitKitchens$Unit" "place" "I") ∈ xT := xT_in 169 (by decide +kernel) rfl
theorem tw_171 : (Jvm.Cond.lays "UnitKitchens$Unit" "UnitKitchens$Unit" "people" "I") ∈ xT := xT_in 171 (by decide +kernel) rfl
theorem tw_173 : (Jvm.Cond.lays "UnitKitchens$Unit" "UnitKitchens$Unit" "greens" "I") ∈ xT := xT_in 173 (by decide +kernel) rfl
theorem tw_175 : (Jvm.Cond.lays "UnitKitchens$Unit" "UnitKitchens$Unit" "nextCall" "I") ∈ xT := xT_in 175 (by decide +kernel) rfl
theorem tw_177 : (Jvm.Cond.lays "UnitKitchens$Unit" "UnitKitchens$Unit" "interval" "I") ∈ xT := xT_in 177 (by decide +kernel) rfl
theorem tw_179 : (Jvm.Cond.lays "UnitKitchens$Unit" "UnitKitchens$Unit" "owedGreens" "I") ∈ xT := xT_in 179 (by decide +kernel) rfl
theorem tw_181 : (Jvm.Cond.lays "UnitKitchens$Unit" "UnitKitchens$Unit" "owedOthers" "I") ∈ xT := xT_in 181 (by decide +kernel) rfl
theorem tw_183 : (Jvm.Cond.lays "UnitKitchens$Unit" "UnitKitchens$Unit" "owedSince" "I") ∈ xT := xT_in 183 (by decide +kernel) rfl
theorem tw_185 : (Jvm.Cond.lays "UnitKitchens$Unit" "UnitKitchens$Unit" "served" "I") ∈ xT := xT_in 185 (by decide +kernel) rfl
theorem tw_187 : (Jvm.Cond.lays "UnitKitchens$Unit" "UnitKitchens$Unit" "penalty" "I") ∈ xT := xT_in 187 (by decide +kernel) rfl
theorem tw_189 : (Jvm.Cond.lays "UnitKitchens$Unit" "UnitKitchens$Unit" "cancelled" "I") ∈ xT := xT_in 189 (by decide +kernel) rfl
theorem tw_192 : (Jvm.Cond.fieldLink "UnitKitchens$Film" (50 : Nat) "UnitKitchens$Film" "minute" "I") ∈ xT := xT_in 192 (by decide +kernel) rfl
theorem tw_193 : (Jvm.Cond.fieldLink "UnitKitchens" (132 : Nat) "UnitKitchens$Film" "minute" "I") ∈ xT := xT_in 193 (by decide +kernel) rfl
theorem tw_194 : (Jvm.Cond.fieldLink "UnitKitchens$Film" (54 : Nat) "UnitKitchens$Film" "cameToBeOwed" "I") ∈ xT := xT_in 194 (by decide +kernel) rfl
theorem tw_195 : (Jvm.Cond.fieldLink "UnitKitchens" (273 : Nat) "UnitKitchens$Film" "cameToBeOwed" "I") ∈ xT := xT_in 195 (by decide +kernel) rfl
theorem tw_196 : (Jvm.Cond.fieldLink "UnitKitchens$Film" (18 : Nat) "UnitKitchens$Film" "settings" "[I") ∈ xT := xT_in 196 (by decide +kernel) rfl
theorem tw_197 : (Jvm.Cond.fieldLink "UnitKitchens" (84 : Nat) "UnitKitchens$Film" "settings" "[I") ∈ xT := xT_in 197 (by decide +kernel) rfl
theorem tw_198 : (Jvm.Cond.fieldLink "UnitKitchens" (45 : Nat) "UnitKitchens$Film" "placeCount" "I") ∈ xT := xT_in 198 (by decide +kernel) rfl
theorem tw_199 : (Jvm.Cond.fieldLink "UnitKitchens$Film" (57 : Nat) "UnitKitchens$Film" "placeCount" "I") ∈ xT := xT_in 199 (by decide +kernel) rfl
theorem tw_200 : (Jvm.Cond.fieldLink "UnitKitchens$Film" (23 : Nat) "UnitKitchens$Film" "placeX" "[I") ∈ xT := xT_in 200 (by decide +kernel) rfl
theorem tw_201 : (Jvm.Cond.fieldLink "UnitKitchens$Film" (26 : Nat) "UnitKitchens$Film" "placeY" "[I") ∈ xT := xT_in 201 (by decide +kernel) rfl
theorem tw_202 : (Jvm.Cond.fieldLink "UnitKitchens$Film" (60 : Nat) "UnitKitchens$Film" "kitchenCount" "I") ∈ xT := xT_in 202 (by decide +kernel) rfl
theorem tw_203 : (Jvm.Cond.fieldLink "UnitKitchens" (64 : Nat) "UnitKitchens$Film" "kitchenCount" "I") ∈ xT := xT_in 203 (by decide +kernel) rfl
theorem tw_204 : (Jvm.Cond.fieldLink "UnitKitchens$Film" (31 : Nat) "UnitKitchens$Film" "kitchens" "[LUnitKitchens$Kitchen;") ∈ xT := xT_in 204 (by decide +kernel) rfl
theorem tw_205 : (Jvm.Cond.fieldLink "UnitKitchens" (87 : Nat) "UnitKitchens$Film" "kitchens" "[LUnitKitchens$Kitchen;") ∈ xT := xT_in 205 (by decide +kernel) rfl
theorem tw_206 : (Jvm.Cond.fieldLink "UnitKitchens$Film" (63 : Nat) "UnitKitchens$Film" "lorryCount" "I") ∈ xT := xT_in 206 (by decide +kernel) rfl
theorem tw_207 : (Jvm.Cond.fieldLink "UnitKitchens" (71 : Nat) "UnitKitchens$Film" "lorryCount" "I") ∈ xT := xT_in 207 (by decide +kernel) rfl
theorem tw_208 : (Jvm.Cond.fieldLink "UnitKitchens$Film" (37 : Nat) "UnitKitchens$Film" "lorries" "[LUnitKitchens$Lorry;") ∈ xT := xT_in 208 (by decide +kernel) rfl
theorem tw_209 : (Jvm.Cond.fieldLink "UnitKitchens" (108 : Nat) "UnitKitchens$Film" "lorries" "[LUnitKitchens$Lorry;") ∈ xT := xT_in 209 (by decide +kernel) rfl
theorem tw_210 : (Jvm.Cond.fieldLink "UnitKitchens$Film" (66 : Nat) "UnitKitchens$Film" "unitCount" "I") ∈ xT := xT_in 210 (by decide +kernel) rfl
theorem tw_211 : (Jvm.Cond.fieldLink "UnitKitchens" (148 : Nat) "UnitKitchens$Film" "unitCount" "I") ∈ xT := xT_in 211 (by decide +kernel) rfl
theorem tw_212 : (Jvm.Cond.fieldLink "UnitKitchens$Film" (43 : Nat) "UnitKitchens$Film" "units" "[LUnitKitchens$Unit;") ∈ xT := xT_in 212 (by decide +kernel) rfl
theorem tw_213 : (Jvm.Cond.fieldLink "UnitKitchens" (155 : Nat) "UnitKitchens$Film" "units" "[LUnitKitchens$Unit;") ∈ xT := xT_in 213 (by decide +kernel) rfl
theorem tw_214 : (Jvm.Cond.lays "UnitKitchens$Film" "UnitKitchens$Film" "minute" "I") ∈ xT := xT_in 214 (by decide +kernel) rfl
theorem tw_216 : (Jvm.Cond.lays "UnitKitchens$Film" "UnitKitchens$Film" "cameToBeOwed" "I") ∈ xT := xT_in 216 (by decide +kernel) rfl
theorem tw_218 : (Jvm.Cond.laysFinal "UnitKitchens$Film" "UnitKitchens$Film" "settings" "[I") ∈ xT := xT_in 218 (by decide +kernel) rfl
theorem tw_220 : (Jvm.Cond.lays "UnitKitchens$Film" "UnitKitchens$Film" "placeCount" "I") ∈ xT := xT_in 220 (by decide +kernel) rfl
theorem tw_222 : (Jvm.Cond.laysFinal "UnitKitchens$Film" "UnitKitchens$Film" "placeX" "[I") ∈ xT := xT_in 222 (by decide +kernel) rfl
theorem tw_224 : (Jvm.Cond.laysFinal "UnitKitchens$Film" "UnitKitchens$Film" "placeY" "[I") ∈ xT := xT_in 224 (by decide +kernel) rfl
theorem tw_226 : (Jvm.Cond.lays "UnitKitchens$Film" "UnitKitchens$Film" "kitchenCount" "I") ∈ xT := xT_in 226 (by decide +kernel) rfl
theorem tw_228 : (Jvm.Cond.laysFinal "UnitKitchens$Film" "UnitKitchens$Film" "kitchens" "[LUnitKitchens$Kitchen;") ∈ xT := xT_in 228 (by decide +kernel) rfl
theorem tw_230 : (Jvm.Cond.lays "UnitKitchens$Film" "UnitKitchens$Film" "lorryCount" "I") ∈ xT := xT_in 230 (by decide +kernel) rfl
theorem tw_232 : (Jvm.Cond.laysFinal "UnitKitchens$Film" "UnitKitchens$Film" "lorries" "[LUnitKitchens$Lorry;") ∈ xT := xT_in 232 (by decide +kernel) rfl
theorem tw_234 : (Jvm.Cond.lays "UnitKitchens$Film" "UnitKitchens$Film" "unitCount" "I") ∈ xT := xT_in 234 (by decide +kernel) rfl
theorem tw_236 : (Jvm.Cond.laysFinal "UnitKitchens$Film" "UnitKitchens$Film" "units" "[LUnitKitchens$Unit;") ∈ xT := xT_in 236 (by decide +kernel) rfl
theorem tw_239 : (Jvm.Cond.classLink "UnitKitchens" (19 : Nat) "UnitKitchens$SavedFilms") ∈ xT := xT_in 239 (by decide +kernel) rfl
theorem tw_240 : (Jvm.Cond.instantiable "UnitKitchens$SavedFilms" (3 : Nat)) ∈ xT := xT_in 240 (by decide +kernel) rfl
theorem tw_241 : (Jvm.Cond.methodLink "UnitKitchens" (21 : Nat) ({ cls := "UnitKitchens$SavedFilms", name := "<init>", desc := "()V" } : Jvm.MethodName)) ∈ xT := xT_in 241 (by decide +kernel) rfl
theorem tw_242 : (Jvm.Cond.instanceMethod ({ cls := "UnitKitchens$SavedFilms", name := "<init>", desc := "()V" } : Jvm.MethodName)) ∈ xT := xT_in 242 (by decide +kernel) rfl
theorem tw_243 : (Jvm.Cond.code ({ cls := "UnitKitchens$SavedFilms", name := "<init>", desc := "()V" } : Jvm.MethodName) prog_6_method_1_code (2 : Nat) (Option.none : Option Jvm.ClassFile.FieldType)) ∈ xT := xT_in 243 (by decide +kernel) rfl
theorem tw_244 : (Jvm.Cond.methodLink "UnitKitchens$SavedFilms" (3 : Nat) ({ cls := "java/lang/Object", name := "<init>", desc := "()V" } : Jvm.MethodName)) ∈ xT := xT_in 244 (by decide +kernel) rfl
theorem tw_245 : (Jvm.Cond.classLink "UnitKitchens$SavedFilms" (9 : Nat) "UnitKitchens$Film") ∈ xT := xT_in 245 (by decide +kernel) rfl
theorem tw_247 : (Jvm.Cond.methodLink "UnitKitchens$SavedFilms" (17 : Nat) ({ cls := "UnitKitchens$Film", name := "<init>", desc := "()V" } : Jvm.MethodName)) ∈ xT := xT_in 247 (by decide +kernel) rfl
theorem tw_248 : (Jvm.Cond.fieldLink "UnitKitchens$SavedFilms" (11 : Nat) "UnitKitchens$SavedFilms" "films" "[LUnitKitchens$Film;") ∈ xT := xT_in 248 (by decide +kernel) rfl
theorem tw_249 : (Jvm.Cond.fieldLink "UnitKitchens$SavedFilms" (18 : Nat) "UnitKitchens$SavedFilms" "next" "I") ∈ xT := xT_in 249 (by decide +kernel) rfl
theorem tw_250 : (Jvm.Cond.fieldLink "UnitKitchens$SavedFilms" (26 : Nat) "UnitKitchens$SavedFilms" "many" "I") ∈ xT := xT_in 250 (by decide +kernel) rfl
theorem tw_251 : (Jvm.Cond.fieldLink "UnitKitchens" (223 : Nat) "UnitKitchens$SavedFilms" "many" "I") ∈ xT := xT_in 251 (by decide +kernel) rfl
theorem tw_252 : (Jvm.Cond.laysFinal "UnitKitchens$SavedFilms" "UnitKitchens$SavedFilms" "films" "[LUnitKitchens$Film;") ∈ xT := xT_in 252 (by decide +kernel) rfl
theorem tw_254 : (Jvm.Cond.lays "UnitKitchens$SavedFilms" "UnitKitchens$SavedFilms" "next" "I") ∈ xT := xT_in 254 (by decide +kernel) rfl
theorem tw_256 : (Jvm.Cond.lays "UnitKitchens$SavedFilms" "UnitKitchens$SavedFilms" "many" "I") ∈ xT := xT_in 256 (by decide +kernel) rfl
theorem tw_259 : (Jvm.Cond.classLink "UnitKitchens" (30 : Nat) "UnitKitchens$SheetReader") ∈ xT := xT_in 259 (by decide +kernel) rfl
theorem tw_260 : (Jvm.Cond.instantiable "UnitKitchens$SheetReader" (3 : Nat)) ∈ xT := xT_in 260 (by decide +kernel) rfl
theorem tw_262 : (Jvm.Cond.instanceMethod ({ cls := "UnitKitchens$SheetReader", name := "<init>", desc := "()V" } : Jvm.MethodName)) ∈ xT := xT_in 262 (by decide +kernel) rfl
theorem tw_263 : (Jvm.Cond.code ({ cls := "UnitKitchens$SheetReader", name := "<init>", desc := "()V" } : Jvm.MethodName) prog_7_method_1_code (1 : Nat) (Option.none : Option Jvm.ClassFile.FieldType)) ∈ xT := xT_in 263 (by decide +kernel) rfl
theorem tw_264 : (Jvm.Cond.methodLink "UnitKitchens$SheetReader" (3 : Nat) ({ cls := "java/lang/Object", name := "<init>", desc := "()V" } : Jvm.MethodName)) ∈ xT := xT_in 264 (by decide +kernel) rfl
theorem tw_265 : (Jvm.Cond.fieldLink "UnitKitchens$SheetReader" (11 : Nat) "UnitKitchens$SheetReader" "numbers" "[I") ∈ xT := xT_in 265 (by decide +kernel) rfl
theorem tw_266 : (Jvm.Cond.lays "UnitKitchens$SheetReader" "UnitKitchens$SheetReader" "part" "I") ∈ xT := xT_in 266 (by decide +kernel) rfl
theorem tw_268 : (Jvm.Cond.lays "UnitKitchens$SheetReader" "UnitKitchens$SheetReader" "place" "I") ∈ xT := xT_in 268 (by decide +kernel) rfl
theorem tw_270 : (Jvm.Cond.laysFinal "UnitKitchens$SheetReader" "UnitKitchens$SheetReader" "numbers" "[I") ∈ xT := xT_in 270 (by decide +kernel) rfl
theorem tw_273 : (Jvm.Cond.arrayClass Jvm.ClassFile.FieldType.char) ∈ xT := xT_in 273 (by decide +kernel) rfl
theorem tw_274 : (Jvm.Cond.fieldLink "UnitKitchens" (10 : Nat) "UnitKitchens" "film" "LUnitKitchens$Film;") ∈ xT := xT_in 274 (by decide +kernel) rfl
theorem tw_275 : (Jvm.Cond.fieldLink "UnitKitchens" (16 : Nat) "UnitKitchens" "ahead" "LUnitKitchens$Film;") ∈ xT := xT_in 275 (by decide +kernel) rfl
theorem tw_276 : (Jvm.Cond.fieldLink "UnitKitchens" (22 : Nat) "UnitKitchens" "saved" "LUnitKitchens$SavedFilms;") ∈ xT := xT_in 276 (by decide +kernel) rfl
theorem tw_277 : (Jvm.Cond.fieldLink "UnitKitchens" (26 : Nat) "UnitKitchens" "buffer" "[C") ∈ xT := xT_in 277 (by decide +kernel) rfl
theorem tw_278 : (Jvm.Cond.fieldLink "UnitKitchens" (33 : Nat) "UnitKitchens" "reader" "LUnitKitchens$SheetReader;") ∈ xT := xT_in 278 (by decide +kernel) rfl
theorem tw_279 : (Jvm.Cond.fieldLink "UnitKitchens" (37 : Nat) "UnitKitchens" "length" "I") ∈ xT := xT_in 279 (by decide +kernel) rfl
theorem tw_280 : (Jvm.Cond.laysFinal "UnitKitchens" "UnitKitchens" "film" "LUnitKitchens$Film;") ∈ xT := xT_in 280 (by decide +kernel) rfl
theorem tw_282 : (Jvm.Cond.laysFinal "UnitKitchens" "UnitKitchens" "ahead" "LUnitKitchens$Film;") ∈ xT := xT_in 282 (by decide +kernel) rfl
theorem tw_284 : (Jvm.Cond.laysFinal "UnitKitchens" "UnitKitchens" "saved" "LUnitKitchens$SavedFilms;") ∈ xT := xT_in 284 (by decide +kernel) rfl
theorem tw_286 : (Jvm.Cond.laysFinal "UnitKitchens" "UnitKitchens" "buffer" "[C") ∈ xT := xT_in 286 (by decide +kernel) rfl
theorem tw_288 : (Jvm.Cond.laysFinal "UnitKitchens" "UnitKitchens" "reader" "LUnitKitchens$SheetReader;") ∈ xT := xT_in 288 (by decide +kernel) rfl
theorem tw_290 : (Jvm.Cond.lays "UnitKitchens" "UnitKitchens" "length" "I") ∈ xT := xT_in 290 (by decide +kernel) rfl
theorem tw_293 : (Jvm.Cond.methodLink "UnitKitchensLaw" (99 : Nat) ({ cls := "UnitKitchens", name := "addPlace", desc := "(II)I" } : Jvm.MethodName)) ∈ xT := xT_in 293 (by decide +kernel) rfl
theorem tw_294 : (Jvm.Cond.instanceMethod ({ cls := "UnitKitchens", name := "addPlace", desc := "(II)I" } : Jvm.MethodName)) ∈ xT := xT_in 294 (by decide +kernel) rfl
theorem tw_295 : (Jvm.Cond.selects "UnitKitchens" ({ cls := "UnitKitchens", name := "addPlace", desc := "(II)I" } : Jvm.MethodName) ({ cls := "UnitKitchens", name := "addPlace", desc := "(II)I" } : Jvm.MethodName)) ∈ xT := xT_in 295 (by decide +kernel) rfl
theorem tw_296 : (Jvm.Cond.code ({ cls := "UnitKitchens", name := "addPlace", desc := "(II)I" } : Jvm.MethodName) prog_1_method_2_code (3 : Nat) (Option.some Jvm.ClassFile.FieldType.int)) ∈ xT := xT_in 296 (by decide +kernel) rfl
