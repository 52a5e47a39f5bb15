/-! words of the tables, by their places -/
theorem tw_0 : (Jvm.Cond.initialized "UnitKitchensLaw") ∈ xT := xT_in 0 (by decide +kernel) rfl
theorem tw_1 : (Jvm.Cond.initialized "UnitKitchens") ∈ xT := xT_in 1 (by decide +kernel) rfl
theorem tw_2 : (Jvm.Cond.initialized "UnitKitchens$Film") ∈ xT := xT_in 2 (by decide +kernel) rfl
theorem tw_3 : (Jvm.Cond.initialized "UnitKitchens$Kitchen") ∈ xT := xT_in 3 (by decide +kernel) rfl
theorem tw_4 : (Jvm.Cond.initialized "UnitKitchens$Meals") ∈ xT := xT_in 4 (by decide +kernel) rfl
theorem tw_5 : (Jvm.Cond.initialized "UnitKitchens$Lorry") ∈ xT := xT_in 5 (by decide +kernel) rfl
theorem tw_6 : (Jvm.Cond.initialized "UnitKitchens$Unit") ∈ xT := xT_in 6 (by decide +kernel) rfl
theorem tw_7 : (Jvm.Cond.initialized "UnitKitchens$SavedFilms") ∈ xT := xT_in 7 (by decide +kernel) rfl
theorem tw_8 : (Jvm.Cond.initialized "UnitKitchens$SheetReader") ∈ xT := xT_in 8 (by decide +kernel) rfl
theorem tw_9 : (Jvm.Cond.initialized "UnitKitchensModel") ∈ xT := xT_in 9 (by decide +kernel) rfl
theorem tw_10 : (Jvm.Cond.initialized "java/lang/Throwable") ∈ xT := xT_in 10 (by decide +kernel) rfl
theorem tw_11 : (Jvm.Cond.initialized "java/lang/Exception") ∈ xT := xT_in 11 (by decide +kernel) rfl
theorem tw_12 : (Jvm.Cond.initialized "java/lang/RuntimeException") ∈ xT := xT_in 12 (by decide +kernel) rfl
theorem tw_13 : (Jvm.Cond.initialized "java/lang/IllegalArgumentException") ∈ xT := xT_in 13 (by decide +kernel) rfl
theorem tw_14 : (Jvm.Cond.initialized "java/lang/IllegalStateException") ∈ xT := xT_in 14 (by decide +kernel) rfl
theorem tw_15 : (Jvm.Cond.initialized "java/lang/System") ∈ xT := xT_in 15 (by decide +kernel) rfl
theorem tw_16 : (Jvm.Cond.initialized "java/lang/Math") ∈ xT := xT_in 16 (by decide +kernel) rfl
theorem tw_17 : (Jvm.Cond.initialized "java/lang/IndexOutOfBoundsException") ∈ xT := xT_in 17 (by decide +kernel) rfl
theorem tw_18 : (Jvm.Cond.initialized "java/lang/Double") ∈ xT := xT_in 18 (by decide +kernel) rfl
theorem tw_19 : (Jvm.Cond.classLink "UnitKitchensLaw" (8 : Nat) "UnitKitchens") ∈ xT := xT_in 19 (by decide +kernel) rfl
theorem tw_20 : (Jvm.Cond.instantiable "UnitKitchens" (6 : Nat)) ∈ xT := xT_in 20 (by decide +kernel) rfl
theorem tw_21 : (Jvm.Cond.methodLink "UnitKitchensLaw" (108 : Nat) ({ cls := "UnitKitchens", name := "<init>", desc := "()V" } : Jvm.MethodName)) ∈ xT := xT_in 21 (by decide +kernel) rfl
theorem tw_22 : (Jvm.Cond.instanceMethod ({ cls := "UnitKitchens", name := "<init>", desc := "()V" } : Jvm.MethodName)) ∈ xT := xT_in 22 (by decide +kernel) rfl
theorem tw_23 : (Jvm.Cond.code ({ cls := "UnitKitchens", name := "<init>", desc := "()V" } : Jvm.MethodName) prog_1_method_1_code (1 : Nat) (Option.none : Option Jvm.ClassFile.FieldType)) ∈ xT := xT_in 23 (by decide +kernel) rfl
theorem tw_24 : (Jvm.Cond.methodLink "UnitKitchens" (1 : Nat) ({ cls := "java/lang/Object", name := "<init>", desc := "()V" } : Jvm.MethodName)) ∈ xT := xT_in 24 (by decide +kernel) rfl
theorem tw_25 : (Jvm.Cond.instanceMethod ({ cls := "java/lang/Object", name := "<init>", desc := "()V" } : Jvm.MethodName)) ∈ xT := xT_in 25 (by decide +kernel) rfl
theorem tw_26 : (Jvm.Cond.code ({ cls := "java/lang/Object", name := "<init>", desc := "()V" } : Jvm.MethodName) object_method_1_code (1 : Nat) (Option.none : Option Jvm.ClassFile.FieldType)) ∈ xT := xT_in 26 (by decide +kernel) rfl
theorem tw_27 : (Jvm.Cond.classLink "UnitKitchens" (7 : Nat) "UnitKitchens$Film") ∈ xT := xT_in 27 (by decide +kernel) rfl
theorem tw_28 : (Jvm.Cond.instantiable "UnitKitchens$Film" (12 : Nat)) ∈ xT := xT_in 28 (by decide +kernel) rfl
theorem tw_29 : (Jvm.Cond.methodLink "UnitKitchens" (9 : Nat) ({ cls := "UnitKitchens$Film", name := "<init>", desc := "()V" } : Jvm.MethodName)) ∈ xT := xT_in 29 (by decide +kernel) rfl
theorem tw_30 : (Jvm.Cond.instanceMethod ({ cls := "UnitKitchens$Film", name := "<init>", desc := "()V" } : Jvm.MethodName)) ∈ xT := xT_in 30 (by decide +kernel) rfl
theorem tw_31 : (Jvm.Cond.code ({ cls := "UnitKitchens$Film", name := "<init>", desc := "()V" } : Jvm.MethodName) prog_2_method_1_code (2 : Nat) (Option.none : Option Jvm.ClassFile.FieldType)) ∈ xT := xT_in 31 (by decide +kernel) rfl
theorem tw_32 : (Jvm.Cond.methodLink "UnitKitchens$Film" (3 : Nat) ({ cls := "java/lang/Object", name := "<init>", desc := "()V" } : Jvm.MethodName)) ∈ xT := xT_in 32 (by decide +kernel) rfl
theorem tw_35 : (Jvm.Cond.methodLink "UnitKitchens$Film" (13 : Nat) ({ cls := "[I", name := "clone", desc := "()Ljava/lang/Object;" } : Jvm.MethodName)) ∈ xT := xT_in 35 (by decide +kernel) rfl
theorem tw_37 : (Jvm.Cond.native ({ cls := "java/lang/Object", name := "clone", desc := "()Ljava/lang/Object;" } : Jvm.MethodName)) ∈ xT := xT_in 37 (by decide +kernel) rfl
theorem tw_38 : (Jvm.Cond.instanceMethod ({ cls := "java/lang/Object", name := "clone", desc := "()Ljava/lang/Object;" } : Jvm.MethodName)) ∈ xT := xT_in 38 (by decide +kernel) rfl
theorem tw_39 : (Jvm.Cond.selects "[I" ({ cls := "[I", name := "clone", desc := "()Ljava/lang/Object;" } : Jvm.MethodName) ({ cls := "java/lang/Object", name := "clone", desc := "()Ljava/lang/Object;" } : Jvm.MethodName)) ∈ xT := xT_in 39 (by decide +kernel) rfl
theorem tw_41 : (Jvm.Cond.classLink "UnitKitchens$Film" (14 : Nat) "[I") ∈ xT := xT_in 41 (by decide +kernel) rfl
theorem tw_42 : (Jvm.Cond.classLink "UnitKitchens$Film" (29 : Nat) "UnitKitchens$Kitchen") ∈ xT := xT_in 42 (by decide +kernel) rfl
theorem tw_44 : (Jvm.Cond.classLink "UnitKitchens$Film" (35 : Nat) "UnitKitchens$Lorry") ∈ xT := xT_in 44 (by decide +kernel) rfl
theorem tw_46 : (Jvm.Cond.classLink "UnitKitchens$Film" (41 : Nat) "UnitKitchens$Unit") ∈ xT := xT_in 46 (by decide +kernel) rfl
theorem tw_48 : (Jvm.Cond.instantiable "UnitKitchens$Kitchen" (7 : Nat)) ∈ xT := xT_in 48 (by decide +kernel) rfl
theorem tw_50 : (Jvm.Cond.instanceMethod ({ cls := "UnitKitchens$Kitchen", name := "<init>", desc := "()V" } : Jvm.MethodName)) ∈ xT := xT_in 50 (by decide +kernel) rfl
theorem tw_51 : (Jvm.Cond.code ({ cls := "UnitKitchens$Kitchen", name := "<init>", desc := "()V" } : Jvm.MethodName) prog_3_method_1_code (1 : Nat) (Option.none : Option Jvm.ClassFile.FieldType)) ∈ xT := xT_in 51 (by decide +kernel) rfl
theorem tw_52 : (Jvm.Cond.methodLink "UnitKitchens$Kitchen" (3 : Nat) ({ cls := "java/lang/Object", name := "<init>", desc := "()V" } : Jvm.MethodName)) ∈ xT := xT_in 52 (by decide +kernel) rfl
theorem tw_53 : (Jvm.Cond.classLink "UnitKitchens$Kitchen" (19 : Nat) "UnitKitchens$Meals") ∈ xT := xT_in 53 (by decide +kernel) rfl
theorem tw_54 : (Jvm.Cond.instantiable "UnitKitchens$Meals" (2 : Nat)) ∈ xT := xT_in 54 (by decide +kernel) rfl
theorem tw_56 : (Jvm.Cond.instanceMethod ({ cls := "UnitKitchens$Meals", name := "<init>", desc := "()V" } : Jvm.MethodName)) ∈ xT := xT_in 56 (by decide +kernel) rfl
theorem tw_57 : (Jvm.Cond.code ({ cls := "UnitKitchens$Meals", name := "<init>", desc := "()V" } : Jvm.MethodName) prog_5_method_1_code (1 : Nat) (Option.none : Option Jvm.ClassFile.FieldType)) ∈ xT := xT_in 57 (by decide +kernel) rfl
theorem tw_58 : (Jvm.Cond.methodLink "UnitKitchens$Meals" (3 : Nat) ({ cls := "java/lang/Object", name := "<init>", desc := "()V" } : Jvm.MethodName)) ∈ xT := xT_in 58 (by decide +kernel) rfl
theorem tw_59 : (Jvm.Cond.fieldLink "UnitKitchens$Meals" (11 : Nat) "UnitKitchens$Meals" "cookedIn" "[I") ∈ xT := xT_in 59 (by decide +kernel) rfl
theorem tw_60 : (Jvm.Cond.fieldLink "UnitKitchens$Meals" (15 : Nat) "UnitKitchens$Meals" "ofDish" "[I") ∈ xT := xT_in 60 (by decide +kernel) rfl
theorem tw_61 : (Jvm.Cond.fieldLink "UnitKitchens$Lorry" (38 : Nat) "UnitKitchens$Meals" "ofDish" "[I") ∈ xT := xT_in 61 (by decide +kernel) rfl
theorem tw_62 : (Jvm.Cond.fieldLink "UnitKitchens$Kitchen" (61 : Nat) "UnitKitchens$Meals" "ofDish" "[I") ∈ xT := xT_in 62 (by decide +kernel) rfl
theorem tw_63 : (Jvm.Cond.fieldLink "UnitKitchens" (122 : Nat) "UnitKitchens$Meals" "ofDish" "[I") ∈ xT := xT_in 63 (by decide +kernel) rfl
theorem tw_64 : (Jvm.Cond.laysFinal "UnitKitchens$Meals" "UnitKitchens$Meals" "cookedIn" "[I") ∈ xT := xT_in 64 (by decide +kernel) rfl
theorem tw_66 : (Jvm.Cond.laysFinal "UnitKitchens$Meals" "UnitKitchens$Meals" "ofDish" "[I") ∈ xT := xT_in 66 (by decide +kernel) rfl
theorem tw_69 : (Jvm.Cond.arrayClass Jvm.ClassFile.FieldType.int) ∈ xT := xT_in 69 (by decide +kernel) rfl
theorem tw_70 : (Jvm.Cond.fieldLink "UnitKitchens$Kitchen" (26 : Nat) "UnitKitchens$Kitchen" "place" "I") ∈ xT := xT_in 70 (by decide +kernel) rfl
theorem tw_71 : (Jvm.Cond.fieldLink "UnitKitchens$Film" (85 : Nat) "UnitKitchens$Kitchen" "place" "I") ∈ xT := xT_in 71 (by decide +kernel) rfl
theorem tw_72 : (Jvm.Cond.fieldLink "UnitKitchens" (117 : Nat) "UnitKitchens$Kitchen" "place" "I") ∈ xT := xT_in 72 (by decide +kernel) rfl
theorem tw_73 : (Jvm.Cond.fieldLink "UnitKitchens$Kitchen" (9 : Nat) "UnitKitchens$Kitchen" "store" "[I") ∈ xT := xT_in 73 (by decide +kernel) rfl
theorem tw_74 : (Jvm.Cond.fieldLink "UnitKitchens" (91 : Nat) "UnitKitchens$Kitchen" "store" "[I") ∈ xT := xT_in 74 (by decide +kernel) rfl
theorem tw_75 : (Jvm.Cond.fieldLink "UnitKitchens$Kitchen" (15 : Nat) "UnitKitchens$Kitchen" "potDish" "I") ∈ xT := xT_in 75 (by decide +kernel) rfl
theorem tw_76 : (Jvm.Cond.fieldLink "UnitKitchens$Kitchen" (35 : Nat) "UnitKitchens$Kitchen" "potMeals" "I") ∈ xT := xT_in 76 (by decide +kernel) rfl
theorem tw_77 : (Jvm.Cond.fieldLink "UnitKitchens" (96 : Nat) "UnitKitchens$Kitchen" "potMeals" "I") ∈ xT := xT_in 77 (by decide +kernel) rfl
theorem tw_78 : (Jvm.Cond.fieldLink "UnitKitchens$Kitchen" (22 : Nat) "UnitKitchens$Kitchen" "meals" "LUnitKitchens$Meals;") ∈ xT := xT_in 78 (by decide +kernel) rfl
theorem tw_79 : (Jvm.Cond.fieldLink "UnitKitchens" (118 : Nat) "UnitKitchens$Kitchen" "meals" "LUnitKitchens$Meals;") ∈ xT := xT_in 79 (by decide +kernel) rfl
theorem tw_80 : (Jvm.Cond.fieldLink "UnitKitchens$Film" (130 : Nat) "UnitKitchens$Kitchen" "meals" "LUnitKitchens$Meals;") ∈ xT := xT_in 80 (by decide +kernel) rfl
theorem tw_81 : (Jvm.Cond.fieldLink "UnitKitchens$Kitchen" (42 : Nat) "UnitKitchens$Kitchen" "cooked" "I") ∈ xT := xT_in 81 (by decide +kernel) rfl
theorem tw_82 : (Jvm.Cond.fieldLink "UnitKitchens$Film" (222 : Nat) "UnitKitchens$Kitchen" "cooked" "I") ∈ xT := xT_in 82 (by decide +kernel) rfl
theorem tw_83 : (Jvm.Cond.fieldLink "UnitKitchens$Kitchen" (45 : Nat) "UnitKitchens$Kitchen" "thrown" "I") ∈ xT := xT_in 83 (by decide +kernel) rfl
theorem tw_84 : (Jvm.Cond.fieldLink "UnitKitchens$Film" (127 : Nat) "UnitKitchens$Kitchen" "thrown" "I") ∈ xT := xT_in 84 (by decide +kernel) rfl
theorem tw_85 : (Jvm.Cond.lays "UnitKitchens$Kitchen" "UnitKitchens$Kitchen" "place" "I") ∈ xT := xT_in 85 (by decide +kernel) rfl
theorem tw_87 : (Jvm.Cond.laysFinal "UnitKitchens$Kitchen" "UnitKitchens$Kitchen" "store" "[I") ∈ xT := xT_in 87 (by decide +kernel) rfl
theorem tw_89 : (Jvm.Cond.lays "UnitKitchens$Kitchen" "UnitKitchens$Kitchen" "potDish" "I") ∈ xT := xT_in 89 (by decide +kernel) rfl
theorem tw_91 : (Jvm.Cond.lays "UnitKitchens$Kitchen" "UnitKitchens$Kitchen" "potMeals" "I") ∈ xT := xT_in 91 (by decide +kernel) rfl
theorem tw_93 : (Jvm.Cond.laysFinal "UnitKitchens$Kitchen" "UnitKitchens$Kitchen" "meals" "LUnitKitchens$Meals;") ∈ xT := xT_in 93 (by decide +kernel) rfl
theorem tw_95 : (Jvm.Cond.lays "UnitKitchens$Kitchen" "UnitKitchens$Kitchen" "cooked" "I") ∈ xT := xT_in 95 (by decide +kernel) rfl
theorem tw_97 : (Jvm.Cond.lays "UnitKitchens$Kitchen" "UnitKitchens$Kitchen" "thrown" "I") ∈ xT := xT_in 97 (by decide +kernel) rfl
theorem tw_100 : (Jvm.Cond.instantiable "UnitKitchens$Lorry" (6 : Nat)) ∈ xT := xT_in 100 (by decide +kernel) rfl
theorem tw_102 : (Jvm.Cond.instanceMethod ({ cls := "UnitKitchens$Lorry", name := "<init>", desc := "()V" } : Jvm.MethodName)) ∈ xT := xT_in 102 (by decide +kernel) rfl
theorem tw_103 : (Jvm.Cond.code ({ cls := "UnitKitchens$Lorry", name := "<init>", desc := "()V" } : Jvm.MethodName) prog_4_method_1_code (1 : Nat) (Option.none : Option Jvm.ClassFile.FieldType)) ∈ xT := xT_in 103 (by decide +kernel) rfl
theorem tw_104 : (Jvm.Cond.methodLink "UnitKitchens$Lorry" (3 : Nat) ({ cls := "java/lang/Object", name := "<init>", desc := "()V" } : Jvm.MethodName)) ∈ xT := xT_in 104 (by decide +kernel) rfl
theorem tw_105 : (Jvm.Cond.classLink "UnitKitchens$Lorry" (18 : Nat) "UnitKitchens$Meals") ∈ xT := xT_in 105 (by decide +kernel) rfl
theorem tw_107 : (Jvm.Cond.fieldLink "UnitKitchens$Lorry" (9 : Nat) "UnitKitchens$Lorry" "place" "I") ∈ xT := xT_in 107 (by decide +kernel) rfl
theorem tw_108 : (Jvm.Cond.fieldLink "UnitKitchens$Film" (88 : Nat) "UnitKitchens$Lorry" "place" "I") ∈ xT := xT_in 108 (by decide +kernel) rfl
theorem tw_109 : (Jvm.Cond.fieldLink "UnitKitchens" (112 : Nat) "UnitKitchens$Lorry" "place" "I") ∈ xT := xT_in 109 (by decide +kernel) rfl
theorem tw_110 : (Jvm.Cond.fieldLink "UnitKitchens$Lorry" (15 : Nat) "UnitKitchens$Lorry" "target" "I") ∈ xT := xT_in 110 (by decide +kernel) rfl
theorem tw_111 : (Jvm.Cond.fieldLink "UnitKitchens" (145 : Nat) "UnitKitchens$Lorry" "target" "I") ∈ xT := xT_in 111 (by decide +kernel) rfl
theorem tw_112 : (Jvm.Cond.fieldLink "UnitKitchens$Film" (202 : Nat) "UnitKitchens$Lorry" "target" "I") ∈ xT := xT_in 112 (by decide +kernel) rfl
theorem tw_113 : (Jvm.Cond.fieldLink "UnitKitchens$Lorry" (25 : Nat) "UnitKitchens$Lorry" "left" "I") ∈ xT := xT_in 113 (by decide +kernel) rfl
theorem tw_114 : (Jvm.Cond.fieldLink "UnitKitchens" (142 : Nat) "UnitKitchens$Lorry" "left" "I") ∈ xT := xT_in 114 (by decide +kernel) rfl
theorem tw_115 : (Jvm.Cond.fieldLink "UnitKitchens$Film" (205 : Nat) "UnitKitchens$Lorry" "left" "I") ∈ xT := xT_in 115 (by decide +kernel) rfl
theorem tw_116 : (Jvm.Cond.fieldLink "UnitKitchens$Lorry" (21 : Nat) "UnitKitchens$Lorry" "meals" "LUnitKitchens$Meals;") ∈ xT := xT_in 116 (by decide +kernel) rfl
theorem tw_117 : (Jvm.Cond.fieldLink "UnitKitchens" (127 : Nat) "UnitKitchens$Lorry" "meals" "LUnitKitchens$Meals;") ∈ xT := xT_in 117 (by decide +kernel) rfl
theorem tw_118 : (Jvm.Cond.fieldLink "UnitKitchens$Film" (141 : Nat) "UnitKitchens$Lorry" "meals" "LUnitKitchens$Meals;") ∈ xT := xT_in 118 (by decide +kernel) rfl
theorem tw_119 : (Jvm.Cond.fieldLink "UnitKitchens$Lorry" (32 : Nat) "UnitKitchens$Lorry" "served" "I") ∈ xT := xT_in 119 (by decide +kernel) rfl
theorem tw_120 : (Jvm.Cond.fieldLink "UnitKitchens$Film" (173 : Nat) "UnitKitchens$Lorry" "served" "I") ∈ xT := xT_in 120 (by decide +kernel) rfl
theorem tw_121 : (Jvm.Cond.fieldLink "UnitKitchens$Lorry" (35 : Nat) "UnitKitchens$Lorry" "thrown" "I") ∈ xT := xT_in 121 (by decide +kernel) rfl
theorem tw_122 : (Jvm.Cond.fieldLink "UnitKitchens$Film" (140 : Nat) "UnitKitchens$Lorry" "thrown" "I") ∈ xT := xT_in 122 (by decide +kernel) rfl
theorem tw_123 : (Jvm.Cond.lays "UnitKitchens$Lorry" "UnitKitchens$Lorry" "place" "I") ∈ xT := xT_in 123 (by decide +kernel) rfl
theorem tw_125 : (Jvm.Cond.lays "UnitKitchens$Lorry" "UnitKitchens$Lorry" "target" "I") ∈ xT := xT_in 125 (by decide +kernel) rfl
theorem tw_127 : (Jvm.Cond.lays "UnitKitchens$Lorry" "UnitKitchens$Lorry" "left" "I") ∈ xT := xT_in 127 (by decide +kernel) rfl
theorem tw_129 : (Jvm.Cond.laysFinal "UnitKitchens$Lorry" "UnitKitchens$Lorry" "meals" "LUnitKitchens$Meals;") ∈ xT := xT_in 129 (by decide +kernel) rfl
theorem tw_131 : (Jvm.Cond.lays "UnitKitchens$Lorry" "UnitKitchens$Lorry" "served" "I") ∈ xT := xT_in 131 (by decide +kernel) rfl
theorem tw_133 : (Jvm.Cond.lays "UnitKitchens$Lorry" "UnitKitchens$Lorry" "thrown" "I") ∈ xT := xT_in 133 (by decide +kernel) rfl
theorem tw_136 : (Jvm.Cond.instantiable "UnitKitchens$Unit" (12 : Nat)) ∈ xT := xT_in 136 (by decide +kernel) rfl
theorem tw_138 : (Jvm.Cond.instanceMethod ({ cls := "UnitKitchens$Unit", name := "<init>", desc := "()V" } : Jvm.MethodName)) ∈ xT := xT_in 138 (by decide +kernel) rfl
theorem tw_139 : (Jvm.Cond.code ({ cls := "UnitKitchens$Unit", name := "<init>", desc := "()V" } : Jvm.MethodName) prog_8_method_1_code (1 : Nat) (Option.none : Option Jvm.ClassFile.FieldType)) ∈ xT := xT_in 139 (by decide +kernel) rfl
theorem tw_140 : (Jvm.Cond.methodLink "UnitKitchens$Unit" (3 : Nat) ({ cls := "java/lang/Object", name := "<init>", desc := "()V" } : Jvm.MethodName)) ∈ xT := xT_in 140 (by decide +kernel) rfl
theorem tw_141 : (Jvm.Cond.fieldLink "UnitKitchens$Unit" (9 : Nat) "UnitKitchens$Unit" "state" "I") ∈ xT := xT_in 141 (by decide +kernel) rfl
theorem tw_142 : (Jvm.Cond.fieldLink "UnitKitchens$Film" (142 : Nat) "UnitKitchens$Unit" "state" "I") ∈ xT := xT_in 142 (by decide +kernel) rfl
theorem tw_143 : (Jvm.Cond.fieldLink "UnitKitchens" (159 : Nat) "UnitKitchens$Unit" "state" "I") ∈ xT := xT_in 143 (by decide +kernel) rfl
theorem tw_144 : (Jvm.Cond.fieldLink "UnitKitchens$Unit" (18 : Nat) "UnitKitchens$Unit" "place" "I") ∈ xT := xT_in 144 (by decide +kernel) rfl
theorem tw_145 : (Jvm.Cond.fieldLink "UnitKitchens$Film" (89 : Nat) "UnitKitchens$Unit" "place" "I") ∈ xT := xT_in 145 (by decide +kernel) rfl
theorem tw_146 : (Jvm.Cond.fieldLink "UnitKitchens" (170 : Nat) "UnitKitchens$Unit" "place" "I") ∈ xT := xT_in 146 (by decide +kernel) rfl
theorem tw_147 : (Jvm.Cond.fieldLink "UnitKitchens$Unit" (21 : Nat) "UnitKitchens$Unit" "people" "I") ∈ xT := xT_in 147 (by decide +kernel) rfl
theorem tw_148 : (Jvm.Cond.fieldLink "UnitKitchens$Meals" (28 : Nat) "UnitKitchens$Unit" "people" "I") ∈ xT := xT_in 148 (by decide +kernel) rfl
theorem tw_149 : (Jvm.Cond.fieldLink "UnitKitchens$Film" (90 : Nat) "UnitKitchens$Unit" "people" "I") ∈ xT := xT_in 149 (by decide +kernel) rfl
theorem tw_150 : (Jvm.Cond.fieldLink "UnitKitchens" (164 : Nat) "UnitKitchens$Unit" "people" "I") ∈ xT := xT_in 150 (by decide +kernel) rfl
theorem tw_151 : (Jvm.Cond.fieldLink "UnitKitchens$Unit" (24 : Nat) "UnitKitchens$Unit" "greens" "I") ∈ xT := xT_in 151 (by decide +kernel) rfl
theorem tw_152 : (Jvm.Cond.fieldLink "UnitKitchens$Meals" (34 : Nat) "UnitKitchens$Unit" "greens" "I") ∈ xT := xT_in 152 (by decide +kernel) rfl
theorem tw_153 : (Jvm.Cond.fieldLink "UnitKitchens$Film" (93 : Nat) "UnitKitchens$Unit" "greens" "I") ∈ xT := xT_in 153 (by decide +kernel) rfl
theorem tw_154 : (Jvm.Cond.fieldLink "UnitKitchens" (167 : Nat) "UnitKitchens$Unit" "greens" "I") ∈ xT := xT_in 154 (by decide +kernel) rfl
theorem tw_155 : (Jvm.Cond.fieldLink "UnitKitchens$Unit" (27 : Nat) "UnitKitchens$Unit" "nextCall" "I") ∈ xT := xT_in 155 (by decide +kernel) rfl
theorem tw_156 : (Jvm.Cond.fieldLink "UnitKitchens$Film" (96 : Nat) "UnitKitchens$Unit" "nextCall" "I") ∈ xT := xT_in 156 (by decide +kernel) rfl
theorem tw_157 : (Jvm.Cond.fieldLink "UnitKitchens" (171 : Nat) "UnitKitchens$Unit" "nextCall" "I") ∈ xT := xT_in 157 (by decide +kernel) rfl
theorem tw_158 : (Jvm.Cond.fieldLink "UnitKitchens$Unit" (30 : Nat) "UnitKitchens$Unit" "interval" "I") ∈ xT := xT_in 158 (by decide +kernel) rfl
theorem tw_159 : (Jvm.Cond.fieldLink "UnitKitchens$Film" (99 : Nat) "UnitKitchens$Unit" "interval" "I") ∈ xT := xT_in 159 (by decide +kernel) rfl
theorem tw_160 : (Jvm.Cond.fieldLink "UnitKitchens" (174 : Nat) "UnitKitchens$Unit" "interval" "I") ∈ xT := xT_in 160 (by decide +kernel) rfl
theorem tw_161 : (Jvm.Cond.fieldLink "UnitKitchens$Unit" (33 : Nat) "UnitKitchens$Unit" "owedGreens" "I") ∈ xT := xT_in 161 (by decide +kernel) rfl
theorem tw_162 : (Jvm.Cond.fieldLink "UnitKitchens$Film" (153 : Nat) "UnitKitchens$Unit" "owedGreens" "I") ∈ xT := xT_in 162 (by decide +kernel) rfl
theorem tw_163 : (Jvm.Cond.fieldLink "UnitKitchens$Unit" (36 : Nat) "UnitKitchens$Unit" "owedOthers" "I") ∈ xT := xT_in 163 (by decide +kernel) rfl
theorem tw_164 : (Jvm.Cond.fieldLink "UnitKitchens$Film" (163 : Nat) "UnitKitchens$Unit" "owedOthers" "I") ∈ xT := xT_in 164 (by decide +kernel) rfl
theorem tw_165 : (Jvm.Cond.fieldLink "UnitKitchens$Unit" (15 : Nat) "UnitKitchens$Unit" "owedSince" "I") ∈ xT := xT_in 165 (by decide +kernel) rfl
theorem tw_166 : (Jvm.Cond.fieldLink "UnitKitchens$Unit" (39 : Nat) "UnitKitchens$Unit" "served" "I") ∈ xT := xT_in 166 (by decide +kernel) rfl
theorem tw_167 : (Jvm.Cond.fieldLink "UnitKitchens$Film" (225 : Nat) "UnitKitchens$Unit" "served" "I") ∈ xT := xT_in 167 (by decide +kernel) rfl
theorem tw_168 : (Jvm.Cond.fieldLink "UnitKitchens$Unit" (42 : Nat) "UnitKitchens$Unit" "penalty" "I") ∈ xT := xT_in 168 (by decide +kernel) rfl
theorem tw_169 : (Jvm.Cond.fieldLink "UnitKitchens$Film" (181 : Nat) "UnitKitchens$Unit" "penalty" "I") ∈ xT := xT_in 169 (by decide +kernel) rfl
theorem tw_170 : (Jvm.Cond.fieldLink "UnitKitchens" (356 : Nat) "UnitKitchens$Unit" "penalty" "I") ∈ xT := xT_in 170 (by decide +kernel) rfl
theorem tw_171 : (Jvm.Cond.fieldLink "UnitKitchens$Unit" (45 : Nat) "UnitKitchens$Unit" "cancelled" "I") ∈ xT := xT_in 171 (by decide +kernel) rfl
theorem tw_172 : (Jvm.Cond.fieldLink "UnitKitchens" (195 : Nat) "UnitKitchens$Unit" "cancelled" "I") ∈ xT := xT_in 172 (by decide +kernel) rfl
theorem tw_173 : (Jvm.Cond.fieldLink "UnitKitchens$Film" (226 : Nat) "UnitKitchens$Unit" "cancelled" "I") ∈ xT := xT_in 173 (by decide +kernel) rfl
theorem tw_174 : (Jvm.Cond.lays "UnitKitchens$Unit" "UnitKitchens$Unit" "state" "I") ∈ xT := xT_in 174 (by decide +kernel) rfl
theorem tw_176 : (Jvm.Cond.lays "UnitKitchens$Unit" "UnitKitchens$Unit" "place" "I") ∈ xT := xT_in 176 (by decide +kernel) rfl
theorem tw_178 : (Jvm.Cond.lays "UnitKitchens$Unit" "UnitKitchens$Unit" "people" "I") ∈ xT := xT_in 178 (by decide +kernel) rfl
theorem tw_180 : (Jvm.Cond.lays "UnitKitchens$Unit" "UnitKitchens$Unit" "greens" "I") ∈ xT := xT_in 180 (by decide +kernel) rfl
theorem tw_182 : (Jvm.Cond.lays "UnitKitchens$Unit" "UnitKitchens$Unit" "nextCall" "I") ∈ xT := xT_in 182 (by decide +kernel) rfl
theorem tw_184 : (Jvm.Cond.lays "UnitKitchens$Unit" "UnitKitchens$Unit" "interval" "I") ∈ xT := xT_in 184 (by decide +kernel) rfl
theorem tw_186 : (Jvm.Cond.lays "UnitKitchens$Unit" "UnitKitchens$Unit" "owedGreens" "I") ∈ xT := xT_in 186 (by decide +kernel) rfl
theorem tw_188 : (Jvm.Cond.lays "UnitKitchens$Unit" "UnitKitchens$Unit" "owedOthers" "I") ∈ xT := xT_in 188 (by decide +kernel) rfl
theorem tw_190 : (Jvm.Cond.lays "UnitKitchens$Unit" "UnitKitchens$Unit" "owedSince" "I") ∈ xT := xT_in 190 (by decide +kernel) rfl
theorem tw_192 : (Jvm.Cond.lays "UnitKitchens$Unit" "UnitKitchens$Unit" "served" "I") ∈ xT := xT_in 192 (by decide +kernel) rfl
theorem tw_194 : (Jvm.Cond.lays "UnitKitchens$Unit" "UnitKitchens$Unit" "penalty" "I") ∈ xT := xT_in 194 (by decide +kernel) rfl
theorem tw_196 : (Jvm.Cond.lays "UnitKitchens$Unit" "UnitKitchens$Unit" "cancelled" "I") ∈ xT := xT_in 196 (by decide +kernel) rfl
theorem tw_199 : (Jvm.Cond.fieldLink "UnitKitchens$Film" (50 : Nat) "UnitKitchens$Film" "minute" "I") ∈ xT := xT_in 199 (by decide +kernel) rfl
theorem tw_200 : (Jvm.Cond.fieldLink "UnitKitchens" (132 : Nat) "UnitKitchens$Film" "minute" "I") ∈ xT := xT_in 200 (by decide +kernel) rfl
theorem tw_201 : (Jvm.Cond.fieldLink "UnitKitchens$Film" (54 : Nat) "UnitKitchens$Film" "cameToBeOwed" "I") ∈ xT := xT_in 201 (by decide +kernel) rfl
theorem tw_202 : (Jvm.Cond.fieldLink "UnitKitchens" (273 : Nat) "UnitKitchens$Film" "cameToBeOwed" "I") ∈ xT := xT_in 202 (by decide +kernel) rfl
theorem tw_203 : (Jvm.Cond.fieldLink "UnitKitchens$Film" (18 : Nat) "UnitKitchens$Film" "settings" "[I") ∈ xT := xT_in 203 (by decide +kernel) rfl
theorem tw_204 : (Jvm.Cond.fieldLink "UnitKitchens" (84 : Nat) "UnitKitchens$Film" "settings" "[I") ∈ xT := xT_in 204 (by decide +kernel) rfl
theorem tw_205 : (Jvm.Cond.fieldLink "UnitKitchens" (45 : Nat) "UnitKitchens$Film" "placeCount" "I") ∈ xT := xT_in 205 (by decide +kernel) rfl
theorem tw_206 : (Jvm.Cond.fieldLink "UnitKitchens$Film" (57 : Nat) "UnitKitchens$Film" "placeCount" "I") ∈ xT := xT_in 206 (by decide +kernel) rfl
theorem tw_207 : (Jvm.Cond.fieldLink "UnitKitchens$Film" (23 : Nat) "UnitKitchens$Film" "placeX" "[I") ∈ xT := xT_in 207 (by decide +kernel) rfl
theorem tw_208 : (Jvm.Cond.fieldLink "UnitKitchens" (229 : Nat) "UnitKitchens$Film" "placeX" "[I") ∈ xT := xT_in 208 (by decide +kernel) rfl
theorem tw_209 : (Jvm.Cond.fieldLink "UnitKitchens$Film" (26 : Nat) "UnitKitchens$Film" "placeY" "[I") ∈ xT := xT_in 209 (by decide +kernel) rfl
theorem tw_210 : (Jvm.Cond.fieldLink "UnitKitchens" (232 : Nat) "UnitKitchens$Film" "placeY" "[I") ∈ xT := xT_in 210 (by decide +kernel) rfl
theorem tw_211 : (Jvm.Cond.fieldLink "UnitKitchens$Film" (60 : Nat) "UnitKitchens$Film" "kitchenCount" "I") ∈ xT := xT_in 211 (by decide +kernel) rfl
theorem tw_212 : (Jvm.Cond.fieldLink "UnitKitchens" (64 : Nat) "UnitKitchens$Film" "kitchenCount" "I") ∈ xT := xT_in 212 (by decide +kernel) rfl
theorem tw_213 : (Jvm.Cond.fieldLink "UnitKitchens$Film" (31 : Nat) "UnitKitchens$Film" "kitchens" "[LUnitKitchens$Kitchen;") ∈ xT := xT_in 213 (by decide +kernel) rfl
theorem tw_214 : (Jvm.Cond.fieldLink "UnitKitchens" (87 : Nat) "UnitKitchens$Film" "kitchens" "[LUnitKitchens$Kitchen;") ∈ xT := xT_in 214 (by decide +kernel) rfl
theorem tw_215 : (Jvm.Cond.fieldLink "UnitKitchens$Film" (63 : Nat) "UnitKitchens$Film" "lorryCount" "I") ∈ xT := xT_in 215 (by decide +kernel) rfl
theorem tw_216 : (Jvm.Cond.fieldLink "UnitKitchens" (71 : Nat) "UnitKitchens$Film" "lorryCount" "I") ∈ xT := xT_in 216 (by decide +kernel) rfl
theorem tw_217 : (Jvm.Cond.fieldLink "UnitKitchens$Film" (37 : Nat) "UnitKitchens$Film" "lorries" "[LUnitKitchens$Lorry;") ∈ xT := xT_in 217 (by decide +kernel) rfl
theorem tw_218 : (Jvm.Cond.fieldLink "UnitKitchens" (108 : Nat) "UnitKitchens$Film" "lorries" "[LUnitKitchens$Lorry;") ∈ xT := xT_in 218 (by decide +kernel) rfl
theorem tw_219 : (Jvm.Cond.fieldLink "UnitKitchens$Film" (66 : Nat) "UnitKitchens$Film" "unitCount" "I") ∈ xT := xT_in 219 (by decide +kernel) rfl
theorem tw_220 : (Jvm.Cond.fieldLink "UnitKitchens" (148 : Nat) "UnitKitchens$Film" "unitCount" "I") ∈ xT := xT_in 220 (by decide +kernel) rfl
theorem tw_221 : (Jvm.Cond.fieldLink "UnitKitchens$Film" (43 : Nat) "UnitKitchens$Film" "units" "[LUnitKitchens$Unit;") ∈ xT := xT_in 221 (by decide +kernel) rfl
theorem tw_222 : (Jvm.Cond.fieldLink "UnitKitchens" (155 : Nat) "UnitKitchens$Film" "units" "[LUnitKitchens$Unit;") ∈ xT := xT_in 222 (by decide +kernel) rfl
theorem tw_223 : (Jvm.Cond.lays "UnitKitchens$Film" "UnitKitchens$Film" "minute" "I") ∈ xT := xT_in 223 (by decide +kernel) rfl
theorem tw_225 : (Jvm.Cond.lays "UnitKitchens$Film" "UnitKitchens$Film" "cameToBeOwed" "I") ∈ xT := xT_in 225 (by decide +kernel) rfl
theorem tw_227 : (Jvm.Cond.laysFinal "UnitKitchens$Film" "UnitKitchens$Film" "settings" "[I") ∈ xT := xT_in 227 (by decide +kernel) rfl
theorem tw_229 : (Jvm.Cond.lays "UnitKitchens$Film" "UnitKitchens$Film" "placeCount" "I") ∈ xT := xT_in 229 (by decide +kernel) rfl
theorem tw_231 : (Jvm.Cond.laysFinal "UnitKitchens$Film" "UnitKitchens$Film" "placeX" "[I") ∈ xT := xT_in 231 (by decide +kernel) rfl
theorem tw_233 : (Jvm.Cond.laysFinal "UnitKitchens$Film" "UnitKitchens$Film" "placeY" "[I") ∈ xT := xT_in 233 (by decide +kernel) rfl
theorem tw_235 : (Jvm.Cond.lays "UnitKitchens$Film" "UnitKitchens$Film" "kitchenCount" "I") ∈ xT := xT_in 235 (by decide +kernel) rfl
theorem tw_237 : (Jvm.Cond.laysFinal "UnitKitchens$Film" "UnitKitchens$Film" "kitchens" "[LUnitKitchens$Kitchen;") ∈ xT := xT_in 237 (by decide +kernel) rfl
theorem tw_239 : (Jvm.Cond.lays "UnitKitchens$Film" "UnitKitchens$Film" "lorryCount" "I") ∈ xT := xT_in 239 (by decide +kernel) rfl
theorem tw_241 : (Jvm.Cond.laysFinal "UnitKitchens$Film" "UnitKitchens$Film" "lorries" "[LUnitKitchens$Lorry;") ∈ xT := xT_in 241 (by decide +kernel) rfl
theorem tw_243 : (Jvm.Cond.lays "UnitKitchens$Film" "UnitKitchens$Film" "unitCount" "I") ∈ xT := xT_in 243 (by decide +kernel) rfl
theorem tw_245 : (Jvm.Cond.laysFinal "UnitKitchens$Film" "UnitKitchens$Film" "units" "[LUnitKitchens$Unit;") ∈ xT := xT_in 245 (by decide +kernel) rfl
theorem tw_248 : (Jvm.Cond.classLink "UnitKitchens" (19 : Nat) "UnitKitchens$SavedFilms") ∈ xT := xT_in 248 (by decide +kernel) rfl
theorem tw_249 : (Jvm.Cond.instantiable "UnitKitchens$SavedFilms" (3 : Nat)) ∈ xT := xT_in 249 (by decide +kernel) rfl
theorem tw_250 : (Jvm.Cond.methodLink "UnitKitchens" (21 : Nat) ({ cls := "UnitKitchens$SavedFilms", name := "<init>", desc := "()V" } : Jvm.MethodName)) ∈ xT := xT_in 250 (by decide +kernel) rfl
theorem tw_251 : (Jvm.Cond.instanceMethod ({ cls := "UnitKitchens$SavedFilms", name := "<init>", desc := "()V" } : Jvm.MethodName)) ∈ xT := xT_in 251 (by decide +kernel) rfl
theorem tw_252 : (Jvm.Cond.code ({ cls := "UnitKitchens$SavedFilms", name := "<init>", desc := "()V" } : Jvm.MethodName) prog_6_method_1_code (2 : Nat) (Option.none : Option Jvm.ClassFile.FieldType)) ∈ xT := xT_in 252 (by decide +kernel) rfl
theorem tw_253 : (Jvm.Cond.methodLink "UnitKitchens$SavedFilms" (3 : Nat) ({ cls := "java/lang/Object", name := "<init>", desc := "()V" } : Jvm.MethodName)) ∈ xT := xT_in 253 (by decide +kernel) rfl
theorem tw_254 : (Jvm.Cond.classLink "UnitKitchens$SavedFilms" (9 : Nat) "UnitKitchens$Film") ∈ xT := xT_in 254 (by decide +kernel) rfl
theorem tw_256 : (Jvm.Cond.methodLink "UnitKitchens$SavedFilms" (17 : Nat) ({ cls := "UnitKitchens$Film", name := "<init>", desc := "()V" } : Jvm.MethodName)) ∈ xT := xT_in 256 (by decide +kernel) rfl
theorem tw_257 : (Jvm.Cond.fieldLink "UnitKitchens$SavedFilms" (11 : Nat) "UnitKitchens$SavedFilms" "films" "[LUnitKitchens$Film;") ∈ xT := xT_in 257 (by decide +kernel) rfl
theorem tw_258 : (Jvm.Cond.fieldLink "UnitKitchens$SavedFilms" (18 : Nat) "UnitKitchens$SavedFilms" "next" "I") ∈ xT := xT_in 258 (by decide +kernel) rfl
theorem tw_259 : (Jvm.Cond.fieldLink "UnitKitchens$SavedFilms" (26 : Nat) "UnitKitchens$SavedFilms" "many" "I") ∈ xT := xT_in 259 (by decide +kernel) rfl
theorem tw_260 : (Jvm.Cond.fieldLink "UnitKitchens" (223 : Nat) "UnitKitchens$SavedFilms" "many" "I") ∈ xT := xT_in 260 (by decide +kernel) rfl
theorem tw_261 : (Jvm.Cond.laysFinal "UnitKitchens$SavedFilms" "UnitKitchens$SavedFilms" "films" "[LUnitKitchens$Film;") ∈ xT := xT_in 261 (by decide +kernel) rfl
theorem tw_263 : (Jvm.Cond.lays "UnitKitchens$SavedFilms" "UnitKitchens$SavedFilms" "next" "I") ∈ xT := xT_in 263 (by decide +kernel) rfl
theorem tw_265 : (Jvm.Cond.lays "UnitKitchens$SavedFilms" "UnitKitchens$SavedFilms" "many" "I") ∈ xT := xT_in 265 (by decide +kernel) rfl
theorem tw_268 : (Jvm.Cond.classLink "UnitKitchens" (30 : Nat) "UnitKitchens$SheetReader") ∈ xT := xT_in 268 (by decide +kernel) rfl
theorem tw_269 : (Jvm.Cond.instantiable "UnitKitchens$SheetReader" (3 : Nat)) ∈ xT := xT_in 269 (by decide +kernel) rfl
theorem tw_271 : (Jvm.Cond.instanceMethod ({ cls := "UnitKitchens$SheetReader", name := "<init>", desc := "()V" } : Jvm.MethodName)) ∈ xT := xT_in 271 (by decide +kernel) rfl
theorem tw_272 : (Jvm.Cond.code ({ cls := "UnitKitchens$SheetReader", name := "<init>", desc := "()V" } : Jvm.MethodName) prog_7_method_1_code (1 : Nat) (Option.none : Option Jvm.ClassFile.FieldType)) ∈ xT := xT_in 272 (by decide +kernel) rfl
theorem tw_273 : (Jvm.Cond.methodLink "UnitKitchens$SheetReader" (3 : Nat) ({ cls := "java/lang/Object", name := "<init>", desc := "()V" } : Jvm.MethodName)) ∈ xT := xT_in 273 (by decide +kernel) rfl
theorem tw_274 : (Jvm.Cond.fieldLink "UnitKitchens$SheetReader" (15 : Nat) "UnitKitchens$SheetReader" "part" "I") ∈ xT := xT_in 274 (by decide +kernel) rfl
theorem tw_275 : (Jvm.Cond.fieldLink "UnitKitchens$SheetReader" (19 : Nat) "UnitKitchens$SheetReader" "place" "I") ∈ xT := xT_in 275 (by decide +kernel) rfl
theorem tw_276 : (Jvm.Cond.fieldLink "UnitKitchens" (344 : Nat) "UnitKitchens$SheetReader" "place" "I") ∈ xT := xT_in 276 (by decide +kernel) rfl
theorem tw_277 : (Jvm.Cond.fieldLink "UnitKitchens$SheetReader" (11 : Nat) "UnitKitchens$SheetReader" "numbers" "[I") ∈ xT := xT_in 277 (by decide +kernel) rfl
theorem tw_278 : (Jvm.Cond.lays "UnitKitchens$SheetReader" "UnitKitchens$SheetReader" "part" "I") ∈ xT := xT_in 278 (by decide +kernel) rfl
theorem tw_280 : (Jvm.Cond.lays "UnitKitchens$SheetReader" "UnitKitchens$SheetReader" "place" "I") ∈ xT := xT_in 280 (by decide +kernel) rfl
theorem tw_282 : (Jvm.Cond.laysFinal "UnitKitchens$SheetReader" "UnitKitchens$SheetReader" "numbers" "[I") ∈ xT := xT_in 282 (by decide +kernel) rfl
theorem tw_285 : (Jvm.Cond.arrayClass Jvm.ClassFile.FieldType.char) ∈ xT := xT_in 285 (by decide +kernel) rfl
theorem tw_286 : (Jvm.Cond.fieldLink "UnitKitchens" (10 : Nat) "UnitKitchens" "film" "LUnitKitchens$Film;") ∈ xT := xT_in 286 (by decide +kernel) rfl
theorem tw_287 : (Jvm.Cond.fieldLink "UnitKitchens" (16 : Nat) "UnitKitchens" "ahead" "LUnitKitchens$Film;") ∈ xT := xT_in 287 (by decide +kernel) rfl
theorem tw_288 : (Jvm.Cond.fieldLink "UnitKitchens" (22 : Nat) "UnitKitchens" "saved" "LUnitKitchens$SavedFilms;") ∈ xT := xT_in 288 (by decide +kernel) rfl
theorem tw_289 : (Jvm.Cond.fieldLink "UnitKitchens" (26 : Nat) "UnitKitchens" "buffer" "[C") ∈ xT := xT_in 289 (by decide +kernel) rfl
theorem tw_290 : (Jvm.Cond.fieldLink "UnitKitchens" (33 : Nat) "UnitKitchens" "reader" "LUnitKitchens$SheetReader;") ∈ xT := xT_in 290 (by decide +kernel) rfl
theorem tw_291 : (Jvm.Cond.fieldLink "UnitKitchens" (37 : Nat) "UnitKitchens" "length" "I") ∈ xT := xT_in 291 (by decide +kernel) rfl
theorem tw_292 : (Jvm.Cond.laysFinal "UnitKitchens" "UnitKitchens" "film" "LUnitKitchens$Film;") ∈ xT := xT_in 292 (by decide +kernel) rfl
theorem tw_294 : (Jvm.Cond.laysFinal "UnitKitchens" "UnitKitchens" "ahead" "LUnitKitchens$Film;") ∈ xT := xT_in 294 (by decide +kernel) rfl
theorem tw_296 : (Jvm.Cond.laysFinal "UnitKitchens" "UnitKitchens" "saved" "LUnitKitchens$SavedFilms;") ∈ xT := xT_in 296 (by decide +kernel) rfl
theorem tw_298 : (Jvm.Cond.laysFinal "UnitKitchens" "UnitKitchens" "buffer" "[C") ∈ xT := xT_in 298 (by decide +kernel) rfl
theorem tw_300 : (Jvm.Cond.laysFinal "UnitKitchens" "UnitKitchens" "reader" "LUnitKitchens$SheetReader;") ∈ xT := xT_in 300 (by decide +kernel) rfl
theorem tw_302 : (Jvm.Cond.lays "UnitKitchens" "UnitKitchens" "length" "I") ∈ xT := xT_in 302 (by decide +kernel) rfl
theorem tw_305 : (Jvm.Cond.methodLink "UnitKitchensLaw" (170 : Nat) ({ cls := "UnitKitchens", name := "clearBuffer", desc := "()I" } : Jvm.MethodName)) ∈ xT := xT_in 305 (by decide +kernel) rfl
theorem tw_306 : (Jvm.Cond.instanceMethod ({ cls := "UnitKitchens", name := "clearBuffer", desc := "()I" } : Jvm.MethodName)) ∈ xT := xT_in 306 (by decide +kernel) rfl
theorem tw_307 : (Jvm.Cond.selects "UnitKitchens" ({ cls := "UnitKitchens", name := "clearBuffer", desc := "()I" } : Jvm.MethodName) ({ cls := "UnitKitchens", name := "clearBuffer", desc := "()I" } : Jvm.MethodName)) ∈ xT := xT_in 307 (by decide +kernel) rfl
theorem tw_308 : (Jvm.Cond.code ({ cls := "UnitKitchens", name := "clearBuffer", desc := "()I" } : Jvm.MethodName) prog_1_method_18_code (2 : Nat) (Option.some Jvm.ClassFile.FieldType.int)) ∈ xT := xT_in 308 (by decide +kernel) rfl
theorem tw_309 : (Jvm.Cond.methodLink "UnitKitchensLaw" (174 : Nat) ({ cls := "UnitKitchens", name := "firstError", desc := "()I" } : Jvm.MethodName)) ∈ xT := xT_in 309 (by decide +kernel) rfl
theorem tw_310 : (Jvm.Cond.instanceMethod ({ cls := "UnitKitchens", name := "firstError", desc := "()I" } : Jvm.MethodName)) ∈ xT := xT_in 310 (by decide +kernel) rfl
theorem tw_311 : (Jvm.Cond.selects "UnitKitchens" ({ cls := "UnitKitchens", name := "firstError", desc := "()I" } : Jvm.MethodName) ({ cls := "UnitKitchens", name := "firstError", desc := "()I" } : Jvm.MethodName)) ∈ xT := xT_in 311 (by decide +kernel) rfl
theorem tw_312 : (Jvm.Cond.code ({ cls := "UnitKitchens", name := "firstError", desc := "()I" } : Jvm.MethodName) prog_1_method_19_code (2 : Nat) (Option.some Jvm.ClassFile.FieldType.int)) ∈ xT := xT_in 312 (by decide +kernel) rfl
theorem tw_313 : (Jvm.Cond.methodLink "UnitKitchens" (204 : Nat) ({ cls := "UnitKitchens$SheetReader", name := "begin", desc := "()V" } : Jvm.MethodName)) ∈ xT := xT_in 313 (by decide +kernel) rfl
theorem tw_314 : (Jvm.Cond.instanceMethod ({ cls := "UnitKitchens$SheetReader", name := "begin", desc := "()V" } : Jvm.MethodName)) ∈ xT := xT_in 314 (by decide +kernel) rfl
theorem tw_315 : (Jvm.Cond.selects "UnitKitchens$SheetReader" ({ cls := "UnitKitchens$SheetReader", name := "begin", desc := "()V" } : Jvm.MethodName) ({ cls := "UnitKitchens$SheetReader", name := "begin", desc := "()V" } : Jvm.MethodName)) ∈ xT := xT_in 315 (by decide +kernel) rfl
theorem tw_316 : (Jvm.Cond.code ({ cls := "UnitKitchens$SheetReader", name := "begin", desc := "()V" } : Jvm.MethodName) prog_7_method_2_code (2 : Nat) (Option.none : Option Jvm.ClassFile.FieldType)) ∈ xT := xT_in 316 (by decide +kernel) rfl
theorem tw_317 : (Jvm.Cond.methodLink "UnitKitchens" (207 : Nat) ({ cls := "UnitKitchens$SheetReader", name := "reads", desc := "(C)Z" } : Jvm.MethodName)) ∈ xT := xT_in 317 (by decide +kernel) rfl
theorem tw_318 : (Jvm.Cond.instanceMethod ({ cls := "UnitKitchens$SheetReader", name := "reads", desc := "(C)Z" } : Jvm.MethodName)) ∈ xT := xT_in 318 (by decide +kernel) rfl
theorem tw_319 : (Jvm.Cond.selects "UnitKitchens$SheetReader" ({ cls := "UnitKitchens$SheetReader", name := "reads", desc := "(C)Z" } : Jvm.MethodName) ({ cls := "UnitKitchens$SheetReader", name := "reads", desc := "(C)Z" } : Jvm.MethodName)) ∈ xT := xT_in 319 (by decide +kernel) rfl
theorem tw_320 : (Jvm.Cond.code ({ cls := "UnitKitchens$SheetReader", name := "reads", desc := "(C)Z" } : Jvm.MethodName) prog_7_method_7_code (2 : Nat) (Option.some Jvm.ClassFile.FieldType.boolean)) ∈ xT := xT_in 320 (by decide +kernel) rfl
theorem tw_321 : (Jvm.Cond.methodLink "UnitKitchens$SheetReader" (28 : Nat) ({ cls := "UnitKitchens$SheetReader", name := "readsPlace", desc := "(C)Z" } : Jvm.MethodName)) ∈ xT := xT_in 321 (by decide +kernel) rfl
theorem tw_322 : (Jvm.Cond.instanceMethod ({ cls := "UnitKitchens$SheetReader", name := "readsPlace", desc := "(C)Z" } : Jvm.MethodName)) ∈ xT := xT_in 322 (by decide +kernel) rfl
theorem tw_323 : (Jvm.Cond.selects "UnitKitchens$SheetReader" ({ cls := "UnitKitchens$SheetReader", name := "readsPlace", desc := "(C)Z" } : Jvm.MethodName) ({ cls := "UnitKitchens$SheetReader", name := "readsPlace", desc := "(C)Z" } : Jvm.MethodName)) ∈ xT := xT_in 323 (by decide +kernel) rfl
theorem tw_324 : (Jvm.Cond.code ({ cls := "UnitKitchens$SheetReader", name := "readsPlace", desc := "(C)Z" } : Jvm.MethodName) prog_7_method_9_code (2 : Nat) (Option.some Jvm.ClassFile.FieldType.boolean)) ∈ xT := xT_in 324 (by decide +kernel) rfl
theorem tw_325 : (Jvm.Cond.methodLink "UnitKitchens$SheetReader" (32 : Nat) ({ cls := "UnitKitchens$SheetReader", name := "readsDigit", desc := "(C)Z" } : Jvm.MethodName)) ∈ xT := xT_in 325 (by decide +kernel) rfl
theorem tw_326 : (Jvm.Cond.instanceMethod ({ cls := "UnitKitchens$SheetReader", name := "readsDigit", desc := "(C)Z" } : Jvm.MethodName)) ∈ xT := xT_in 326 (by decide +kernel) rfl
theorem tw_327 : (Jvm.Cond.selects "UnitKitchens$SheetReader" ({ cls := "UnitKitchens$SheetReader", name := "readsDigit", desc := "(C)Z" } : Jvm.MethodName) ({ cls := "UnitKitchens$SheetReader", name := "readsDigit", desc := "(C)Z" } : Jvm.MethodName)) ∈ xT := xT_in 327 (by decide +kernel) rfl
theorem tw_328 : (Jvm.Cond.code ({ cls := "UnitKitchens$SheetReader", name := "readsDigit", desc := "(C)Z" } : Jvm.MethodName) prog_7_method_10_code (6 : Nat) (Option.some Jvm.ClassFile.FieldType.boolean)) ∈ xT := xT_in 328 (by decide +kernel) rfl
theorem tw_329 : (Jvm.Cond.fieldLink "UnitKitchens$SheetReader" (42 : Nat) "UnitKitchens$SheetReader" "LEAST" "[I") ∈ xT := xT_in 329 (by decide +kernel) rfl
theorem tw_331 : (Jvm.Cond.fieldLink "UnitKitchens$SheetReader" (45 : Nat) "UnitKitchens$SheetReader" "MOST" "[I") ∈ xT := xT_in 331 (by decide +kernel) rfl
theorem tw_333 : (Jvm.Cond.methodLink "UnitKitchens$SheetReader" (35 : Nat) ({ cls := "UnitKitchens$SheetReader", name := "readsSign", desc := "(C)Z" } : Jvm.MethodName)) ∈ xT := xT_in 333 (by decide +kernel) rfl
theorem tw_334 : (Jvm.Cond.instanceMethod ({ cls := "UnitKitchens$SheetReader", name := "readsSign", desc := "(C)Z" } : Jvm.MethodName)) ∈ xT := xT_in 334 (by decide +kernel) rfl
theorem tw_335 : (Jvm.Cond.selects "UnitKitchens$SheetReader" ({ cls := "UnitKitchens$SheetReader", name := "readsSign", desc := "(C)Z" } : Jvm.MethodName) ({ cls := "UnitKitchens$SheetReader", name := "readsSign", desc := "(C)Z" } : Jvm.MethodName)) ∈ xT := xT_in 335 (by decide +kernel) rfl
theorem tw_336 : (Jvm.Cond.code ({ cls := "UnitKitchens$SheetReader", name := "readsSign", desc := "(C)Z" } : Jvm.MethodName) prog_7_method_12_code (3 : Nat) (Option.some Jvm.ClassFile.FieldType.boolean)) ∈ xT := xT_in 336 (by decide +kernel) rfl
theorem tw_337 : (Jvm.Cond.methodLink "UnitKitchens$SheetReader" (48 : Nat) ({ cls := "UnitKitchens$SheetReader", name := "partBehind", desc := "(C)I" } : Jvm.MethodName)) ∈ xT := xT_in 337 (by decide +kernel) rfl
theorem tw_338 : (Jvm.Cond.instanceMethod ({ cls := "UnitKitchens$SheetReader", name := "partBehind", desc := "(C)I" } : Jvm.MethodName)) ∈ xT := xT_in 338 (by decide +kernel) rfl
theorem tw_339 : (Jvm.Cond.selects "UnitKitchens$SheetReader" ({ cls := "UnitKitchens$SheetReader", name := "partBehind", desc := "(C)I" } : Jvm.MethodName) ({ cls := "UnitKitchens$SheetReader", name := "partBehind", desc := "(C)I" } : Jvm.MethodName)) ∈ xT := xT_in 339 (by decide +kernel) rfl
theorem tw_340 : (Jvm.Cond.code ({ cls := "UnitKitchens$SheetReader", name := "partBehind", desc := "(C)I" } : Jvm.MethodName) prog_7_method_13_code (2 : Nat) (Option.some Jvm.ClassFile.FieldType.int)) ∈ xT := xT_in 340 (by decide +kernel) rfl
theorem tw_341 : (Jvm.Cond.methodLink "UnitKitchens$SheetReader" (38 : Nat) ({ cls := "UnitKitchens$SheetReader", name := "isWhole", desc := "()Z" } : Jvm.MethodName)) ∈ xT := xT_in 341 (by decide +kernel) rfl
theorem tw_342 : (Jvm.Cond.instanceMethod ({ cls := "UnitKitchens$SheetReader", name := "isWhole", desc := "()Z" } : Jvm.MethodName)) ∈ xT := xT_in 342 (by decide +kernel) rfl
theorem tw_343 : (Jvm.Cond.selects "UnitKitchens$SheetReader" ({ cls := "UnitKitchens$SheetReader", name := "isWhole", desc := "()Z" } : Jvm.MethodName) ({ cls := "UnitKitchens$SheetReader", name := "isWhole", desc := "()Z" } : Jvm.MethodName)) ∈ xT := xT_in 343 (by decide +kernel) rfl
theorem tw_344 : (Jvm.Cond.code ({ cls := "UnitKitchens$SheetReader", name := "isWhole", desc := "()Z" } : Jvm.MethodName) prog_7_method_11_code (1 : Nat) (Option.some Jvm.ClassFile.FieldType.boolean)) ∈ xT := xT_in 344 (by decide +kernel) rfl
theorem tw_345 : (Jvm.Cond.methodLink "UnitKitchens$SheetReader" (52 : Nat) ({ cls := "UnitKitchens$SheetReader", name := "begin", desc := "()V" } : Jvm.MethodName)) ∈ xT := xT_in 345 (by decide +kernel) rfl
theorem tw_346 : (Jvm.Cond.methodLink "UnitKitchensLaw" (218 : Nat) ({ cls := "UnitKitchens", name := "servedShare", desc := "()D" } : Jvm.MethodName)) ∈ xT := xT_in 346 (by decide +kernel) rfl
theorem tw_347 : (Jvm.Cond.instanceMethod ({ cls := "UnitKitchens", name := "servedShare", desc := "()D" } : Jvm.MethodName)) ∈ xT := xT_in 347 (by decide +kernel) rfl
theorem tw_348 : (Jvm.Cond.selects "UnitKitchens" ({ cls := "UnitKitchens", name := "servedShare", desc := "()D" } : Jvm.MethodName) ({ cls := "UnitKitchens", name := "servedShare", desc := "()D" } : Jvm.MethodName)) ∈ xT := xT_in 348 (by decide +kernel) rfl
theorem tw_349 : (Jvm.Cond.code ({ cls := "UnitKitchens", name := "servedShare", desc := "()D" } : Jvm.MethodName) prog_1_method_33_code (2 : Nat) (Option.some Jvm.ClassFile.FieldType.double)) ∈ xT := xT_in 349 (by decide +kernel) rfl
theorem tw_350 : (Jvm.Cond.methodLink "UnitKitchens" (198 : Nat) ({ cls := "UnitKitchens$Film", name := "served", desc := "()I" } : Jvm.MethodName)) ∈ xT := xT_in 350 (by decide +kernel) rfl
theorem tw_351 : (Jvm.Cond.instanceMethod ({ cls := "UnitKitchens$Film", name := "served", desc := "()I" } : Jvm.MethodName)) ∈ xT := xT_in 351 (by decide +kernel) rfl
theorem tw_352 : (Jvm.Cond.selects "UnitKitchens$Film" ({ cls := "UnitKitchens$Film", name := "served", desc := "()I" } : Jvm.MethodName) ({ cls := "UnitKitchens$Film", name := "served", desc := "()I" } : Jvm.MethodName)) ∈ xT := xT_in 352 (by decide +kernel) rfl
theorem tw_353 : (Jvm.Cond.code ({ cls := "UnitKitchens$Film", name := "served", desc := "()I" } : Jvm.MethodName) prog_2_method_27_code (3 : Nat) (Option.some Jvm.ClassFile.FieldType.int)) ∈ xT := xT_in 353 (by decide +kernel) rfl
theorem tw_354 : (Jvm.Cond.methodLink "UnitKitchensLaw" (223 : Nat) ({ cls := "UnitKitchens", name := "digest", desc := "()J" } : Jvm.MethodName)) ∈ xT := xT_in 354 (by decide +kernel) rfl
theorem tw_355 : (Jvm.Cond.instanceMethod ({ cls := "UnitKitchens", name := "digest", desc := "()J" } : Jvm.MethodName)) ∈ xT := xT_in 355 (by decide +kernel) rfl
theorem tw_356 : (Jvm.Cond.selects "UnitKitchens" ({ cls := "UnitKitchens", name := "digest", desc := "()J" } : Jvm.MethodName) ({ cls := "UnitKitchens", name := "digest", desc := "()J" } : Jvm.MethodName)) ∈ xT := xT_in 356 (by decide +kernel) rfl
theorem tw_357 : (Jvm.Cond.code ({ cls := "UnitKitchens", name := "digest", desc := "()J" } : Jvm.MethodName) prog_1_method_34_code (4 : Nat) (Option.some Jvm.ClassFile.FieldType.long)) ∈ xT := xT_in 357 (by decide +kernel) rfl
theorem tw_358 : (Jvm.Cond.constantLong "UnitKitchens" (298 : Nat) (2389 : Int64)) ∈ xT := xT_in 358 (by decide +kernel) rfl
theorem tw_359 : (Jvm.Cond.constantLong "UnitKitchens" (300 : Nat) (31 : Int64)) ∈ xT := xT_in 359 (by decide +kernel) rfl
theorem tw_360 : (Jvm.Cond.methodLink "UnitKitchens" (302 : Nat) ({ cls := "UnitKitchens", name := "count", desc := "(I)I" } : Jvm.MethodName)) ∈ xT := xT_in 360 (by decide +kernel) rfl
theorem tw_361 : (Jvm.Cond.instanceMethod ({ cls := "UnitKitchens", name := "count", desc := "(I)I" } : Jvm.MethodName)) ∈ xT := xT_in 361 (by decide +kernel) rfl
theorem tw_362 : (Jvm.Cond.selects "UnitKitchens" ({ cls := "UnitKitchens", name := "count", desc := "(I)I" } : Jvm.MethodName) ({ cls := "UnitKitchens", name := "count", desc := "(I)I" } : Jvm.MethodName)) ∈ xT := xT_in 362 (by decide +kernel) rfl
theorem tw_363 : (Jvm.Cond.code ({ cls := "UnitKitchens", name := "count", desc := "(I)I" } : Jvm.MethodName) prog_1_method_26_code (2 : Nat) (Option.some Jvm.ClassFile.FieldType.int)) ∈ xT := xT_in 363 (by decide +kernel) rfl
theorem tw_364 : (Jvm.Cond.methodLink "UnitKitchens" (41 : Nat) ({ cls := "UnitKitchens", name := "requireRange", desc := "(III)V" } : Jvm.MethodName)) ∈ xT := xT_in 364 (by decide +kernel) rfl
theorem tw_365 : (Jvm.Cond.static ({ cls := "UnitKitchens", name := "requireRange", desc := "(III)V" } : Jvm.MethodName)) ∈ xT := xT_in 365 (by decide +kernel) rfl
theorem tw_366 : (Jvm.Cond.code ({ cls := "UnitKitchens", name := "requireRange", desc := "(III)V" } : Jvm.MethodName) prog_1_method_36_code (3 : Nat) (Option.none : Option Jvm.ClassFile.FieldType)) ∈ xT := xT_in 366 (by decide +kernel) rfl
theorem tw_367 : (Jvm.Cond.classLink "UnitKitchens" (177 : Nat) "java/lang/IllegalArgumentException") ∈ xT := xT_in 367 (by decide +kernel) rfl
theorem tw_368 : (Jvm.Cond.instantiable "java/lang/IllegalArgumentException" (6 : Nat)) ∈ xT := xT_in 368 (by decide +kernel) rfl
theorem tw_376 : (Jvm.Cond.selects "java/lang/IllegalArgumentException" ({ cls := "java/lang/Throwable", name := "fillInStackTrace", desc := "(I)Ljava/lang/Throwable;" } : Jvm.MethodName) ({ cls := "java/lang/Throwable", name := "fillInStackTrace", desc := "(I)Ljava/lang/Throwable;" } : Jvm.MethodName)) ∈ xT := xT_in 376 (by decide +kernel) rfl
theorem tw_377 : (Jvm.Cond.selects "java/lang/IllegalArgumentException" ({ cls := "java/lang/Throwable", name := "fillInStackTrace", desc := "()Ljava/lang/Throwable;" } : Jvm.MethodName) ({ cls := "java/lang/Throwable", name := "fillInStackTrace", desc := "()Ljava/lang/Throwable;" } : Jvm.MethodName)) ∈ xT := xT_in 377 (by decide +kernel) rfl
theorem tw_378 : (Jvm.Cond.lays "java/lang/IllegalArgumentException" "java/lang/Throwable" "cause" "Ljava/lang/Throwable;") ∈ xT := xT_in 378 (by decide +kernel) rfl
theorem tw_379 : (Jvm.Cond.lays "java/lang/Throwable" "java/lang/Throwable" "cause" "Ljava/lang/Throwable;") ∈ xT := xT_in 379 (by decide +kernel) rfl
theorem tw_380 : (Jvm.Cond.lays "java/lang/IllegalArgumentException" "java/lang/Throwable" "stackTrace" "[Ljava/lang/StackTraceElement;") ∈ xT := xT_in 380 (by decide +kernel) rfl
theorem tw_381 : (Jvm.Cond.lays "java/lang/Throwable" "java/lang/Throwable" "stackTrace" "[Ljava/lang/StackTraceElement;") ∈ xT := xT_in 381 (by decide +kernel) rfl
theorem tw_382 : (Jvm.Cond.lays "java/lang/IllegalArgumentException" "java/lang/Throwable" "suppressedExceptions" "Ljava/util/List;") ∈ xT := xT_in 382 (by decide +kernel) rfl
theorem tw_383 : (Jvm.Cond.lays "java/lang/Throwable" "java/lang/Throwable" "suppressedExceptions" "Ljava/util/List;") ∈ xT := xT_in 383 (by decide +kernel) rfl
theorem tw_384 : (Jvm.Cond.lays "java/lang/IllegalArgumentException" "java/lang/Throwable" "detailMessage" "Ljava/lang/String;") ∈ xT := xT_in 384 (by decide +kernel) rfl
theorem tw_385 : (Jvm.Cond.lays "java/lang/Throwable" "java/lang/Throwable" "detailMessage" "Ljava/lang/String;") ∈ xT := xT_in 385 (by decide +kernel) rfl
theorem tw_386 : (Jvm.Cond.lays "java/lang/IllegalArgumentException" "java/lang/Throwable" "backtrace" "Ljava/lang/Object;") ∈ xT := xT_in 386 (by decide +kernel) rfl
theorem tw_387 : (Jvm.Cond.lays "java/lang/Throwable" "java/lang/Throwable" "backtrace" "Ljava/lang/Object;") ∈ xT := xT_in 387 (by decide +kernel) rfl
theorem tw_388 : (Jvm.Cond.fieldLink "java/lang/Throwable" (198 : Nat) "java/lang/Throwable" "backtrace" "Ljava/lang/Object;") ∈ xT := xT_in 388 (by decide +kernel) rfl
theorem tw_390 : (Jvm.Cond.instanceMethod ({ cls := "java/lang/Throwable", name := "<init>", desc := "()V" } : Jvm.MethodName)) ∈ xT := xT_in 390 (by decide +kernel) rfl
theorem tw_391 : (Jvm.Cond.code ({ cls := "java/lang/Throwable", name := "<init>", desc := "()V" } : Jvm.MethodName) prog_21_method_1_code (1 : Nat) (Option.none : Option Jvm.ClassFile.FieldType)) ∈ xT := xT_in 391 (by decide +kernel) rfl
theorem tw_392 : (Jvm.Cond.methodLink "java/lang/Throwable" (1 : Nat) ({ cls := "java/lang/Object", name := "<init>", desc := "()V" } : Jvm.MethodName)) ∈ xT := xT_in 392 (by decide +kernel) rfl
theorem tw_393 : (Jvm.Cond.fieldLink "java/lang/Throwable" (13 : Nat) "java/lang/Throwable" "UNASSIGNED_STACK" "[Ljava/lang/StackTraceElement;") ∈ xT := xT_in 393 (by decide +kernel) rfl
theorem tw_395 : (Jvm.Cond.fieldLink "java/lang/Throwable" (20 : Nat) "java/lang/Throwable" "SUPPRESSED_SENTINEL" "Ljava/util/List;") ∈ xT := xT_in 395 (by decide +kernel) rfl
theorem tw_397 : (Jvm.Cond.methodLink "java/lang/Throwable" (27 : Nat) ({ cls := "java/lang/Throwable", name := "fillInStackTrace", desc := "()Ljava/lang/Throwable;" } : Jvm.MethodName)) ∈ xT := xT_in 397 (by decide +kernel) rfl
theorem tw_398 : (Jvm.Cond.instanceMethod ({ cls := "java/lang/Throwable", name := "fillInStackTrace", desc := "()Ljava/lang/Throwable;" } : Jvm.MethodName)) ∈ xT := xT_in 398 (by decide +kernel) rfl
theorem tw_400 : (Jvm.Cond.selects "java/lang/IllegalStateException" ({ cls := "java/lang/Throwable", name := "fillInStackTrace", desc := "()Ljava/lang/Throwable;" } : Jvm.MethodName) ({ cls := "java/lang/Throwable", name := "fillInStackTrace", desc := "()Ljava/lang/Throwable;" } : Jvm.MethodName)) ∈ xT := xT_in 400 (by decide +kernel) rfl
theorem tw_401 : (Jvm.Cond.selects "java/lang/IndexOutOfBoundsException" ({ cls := "java/lang/Throwable", name := "fillInStackTrace", desc := "()Ljava/lang/Throwable;" } : Jvm.MethodName) ({ cls := "java/lang/Throwable", name := "fillInStackTrace", desc := "()Ljava/lang/Throwable;" } : Jvm.MethodName)) ∈ xT := xT_in 401 (by decide +kernel) rfl
theorem tw_403 : (Jvm.Cond.methodLink "java/lang/Throwable" (202 : Nat) ({ cls := "java/lang/Throwable", name := "fillInStackTrace", desc := "(I)Ljava/lang/Throwable;" } : Jvm.MethodName)) ∈ xT := xT_in 403 (by decide +kernel) rfl
theorem tw_405 : (Jvm.Cond.instanceMethod ({ cls := "java/lang/Throwable", name := "fillInStackTrace", desc := "(I)Ljava/lang/Throwable;" } : Jvm.MethodName)) ∈ xT := xT_in 405 (by decide +kernel) rfl
theorem tw_406 : (Jvm.Cond.instantiable "java/lang/Throwable" (6 : Nat)) ∈ xT := xT_in 406 (by decide +kernel) rfl
theorem tw_407 : (Jvm.Cond.native ({ cls := "java/lang/Throwable", name := "fillInStackTrace", desc := "(I)Ljava/lang/Throwable;" } : Jvm.MethodName)) ∈ xT := xT_in 407 (by decide +kernel) rfl
theorem tw_409 : (Jvm.Cond.methodLink "UnitKitchens" (181 : Nat) ({ cls := "java/lang/IllegalArgumentException", name := "<init>", desc := "(Ljava/lang/String;)V" } : Jvm.MethodName)) ∈ xT := xT_in 409 (by decide +kernel) rfl
theorem tw_410 : (Jvm.Cond.instanceMethod ({ cls := "java/lang/IllegalArgumentException", name := "<init>", desc := "(Ljava/lang/String;)V" } : Jvm.MethodName)) ∈ xT := xT_in 410 (by decide +kernel) rfl
theorem tw_411 : (Jvm.Cond.code ({ cls := "java/lang/IllegalArgumentException", name := "<init>", desc := "(Ljava/lang/String;)V" } : Jvm.MethodName) prog_14_method_2_code (2 : Nat) (Option.none : Option Jvm.ClassFile.FieldType)) ∈ xT := xT_in 411 (by decide +kernel) rfl
theorem tw_412 : (Jvm.Cond.methodLink "java/lang/IllegalArgumentException" (7 : Nat) ({ cls := "java/lang/RuntimeException", name := "<init>", desc := "(Ljava/lang/String;)V" } : Jvm.MethodName)) ∈ xT := xT_in 412 (by decide +kernel) rfl
theorem tw_413 : (Jvm.Cond.instanceMethod ({ cls := "java/lang/RuntimeException", name := "<init>", desc := "(Ljava/lang/String;)V" } : Jvm.MethodName)) ∈ xT := xT_in 413 (by decide +kernel) rfl
theorem tw_414 : (Jvm.Cond.code ({ cls := "java/lang/RuntimeException", name := "<init>", desc := "(Ljava/lang/String;)V" } : Jvm.MethodName) prog_18_method_2_code (2 : Nat) (Option.none : Option Jvm.ClassFile.FieldType)) ∈ xT := xT_in 414 (by decide +kernel) rfl
theorem tw_415 : (Jvm.Cond.methodLink "java/lang/RuntimeException" (7 : Nat) ({ cls := "java/lang/Exception", name := "<init>", desc := "(Ljava/lang/String;)V" } : Jvm.MethodName)) ∈ xT := xT_in 415 (by decide +kernel) rfl
theorem tw_416 : (Jvm.Cond.instanceMethod ({ cls := "java/lang/Exception", name := "<init>", desc := "(Ljava/lang/String;)V" } : Jvm.MethodName)) ∈ xT := xT_in 416 (by decide +kernel) rfl
theorem tw_417 : (Jvm.Cond.code ({ cls := "java/lang/Exception", name := "<init>", desc := "(Ljava/lang/String;)V" } : Jvm.MethodName) prog_13_method_2_code (2 : Nat) (Option.none : Option Jvm.ClassFile.FieldType)) ∈ xT := xT_in 417 (by decide +kernel) rfl
theorem tw_418 : (Jvm.Cond.methodLink "java/lang/Exception" (7 : Nat) ({ cls := "java/lang/Throwable", name := "<init>", desc := "(Ljava/lang/String;)V" } : Jvm.MethodName)) ∈ xT := xT_in 418 (by decide +kernel) rfl
theorem tw_419 : (Jvm.Cond.instanceMethod ({ cls := "java/lang/Throwable", name := "<init>", desc := "(Ljava/lang/String;)V" } : Jvm.MethodName)) ∈ xT := xT_in 419 (by decide +kernel) rfl
theorem tw_420 : (Jvm.Cond.code ({ cls := "java/lang/Throwable", name := "<init>", desc := "(Ljava/lang/String;)V" } : Jvm.MethodName) prog_21_method_2_code (2 : Nat) (Option.none : Option Jvm.ClassFile.FieldType)) ∈ xT := xT_in 420 (by decide +kernel) rfl
theorem tw_421 : (Jvm.Cond.fieldLink "java/lang/Throwable" (198 : Nat) "java/lang/Throwable" "backtrace" "Ljava/lang/Object;") ∈ xT := xT_in 421 (by decide +kernel) rfl
theorem tw_422 : (Jvm.Cond.fieldLink "java/lang/Throwable" (31 : Nat) "java/lang/Throwable" "detailMessage" "Ljava/lang/String;") ∈ xT := xT_in 422 (by decide +kernel) rfl
theorem tw_423 : (Jvm.Cond.fieldLink "java/lang/Throwable" (7 : Nat) "java/lang/Throwable" "cause" "Ljava/lang/Throwable;") ∈ xT := xT_in 423 (by decide +kernel) rfl
theorem tw_424 : (Jvm.Cond.fieldLink "java/lang/Throwable" (17 : Nat) "java/lang/Throwable" "stackTrace" "[Ljava/lang/StackTraceElement;") ∈ xT := xT_in 424 (by decide +kernel) rfl
theorem tw_425 : (Jvm.Cond.fieldLink "java/lang/Throwable" (24 : Nat) "java/lang/Throwable" "suppressedExceptions" "Ljava/util/List;") ∈ xT := xT_in 425 (by decide +kernel) rfl
theorem tw_430 : (Jvm.Cond.lays "java/lang/IllegalArgumentException" "java/lang/Throwable" "depth" "I") ∈ xT := xT_in 430 (by decide +kernel) rfl
theorem tw_434 : (Jvm.Cond.arrayClass Jvm.ClassFile.FieldType.byte) ∈ xT := xT_in 434 (by decide +kernel) rfl
theorem tw_435 : (Jvm.Cond.methodLink "UnitKitchens" (256 : Nat) ({ cls := "UnitKitchens$Film", name := "workingUnits", desc := "()I" } : Jvm.MethodName)) ∈ xT := xT_in 435 (by decide +kernel) rfl
theorem tw_436 : (Jvm.Cond.instanceMethod ({ cls := "UnitKitchens$Film", name := "workingUnits", desc := "()I" } : Jvm.MethodName)) ∈ xT := xT_in 436 (by decide +kernel) rfl
theorem tw_437 : (Jvm.Cond.selects "UnitKitchens$Film" ({ cls := "UnitKitchens$Film", name := "workingUnits", desc := "()I" } : Jvm.MethodName) ({ cls := "UnitKitchens$Film", name := "workingUnits", desc := "()I" } : Jvm.MethodName)) ∈ xT := xT_in 437 (by decide +kernel) rfl
theorem tw_438 : (Jvm.Cond.code ({ cls := "UnitKitchens$Film", name := "workingUnits", desc := "()I" } : Jvm.MethodName) prog_2_method_24_code (3 : Nat) (Option.some Jvm.ClassFile.FieldType.int)) ∈ xT := xT_in 438 (by decide +kernel) rfl
theorem tw_439 : (Jvm.Cond.methodLink "UnitKitchens" (259 : Nat) ({ cls := "UnitKitchens$Film", name := "people", desc := "()I" } : Jvm.MethodName)) ∈ xT := xT_in 439 (by decide +kernel) rfl
theorem tw_440 : (Jvm.Cond.instanceMethod ({ cls := "UnitKitchens$Film", name := "people", desc := "()I" } : Jvm.MethodName)) ∈ xT := xT_in 440 (by decide +kernel) rfl
theorem tw_441 : (Jvm.Cond.selects "UnitKitchens$Film" ({ cls := "UnitKitchens$Film", name := "people", desc := "()I" } : Jvm.MethodName) ({ cls := "UnitKitchens$Film", name := "people", desc := "()I" } : Jvm.MethodName)) ∈ xT := xT_in 441 (by decide +kernel) rfl
theorem tw_442 : (Jvm.Cond.code ({ cls := "UnitKitchens$Film", name := "people", desc := "()I" } : Jvm.MethodName) prog_2_method_25_code (3 : Nat) (Option.some Jvm.ClassFile.FieldType.int)) ∈ xT := xT_in 442 (by decide +kernel) rfl
theorem tw_443 : (Jvm.Cond.methodLink "UnitKitchens" (261 : Nat) ({ cls := "UnitKitchens$Film", name := "cooked", desc := "()I" } : Jvm.MethodName)) ∈ xT := xT_in 443 (by decide +kernel) rfl
theorem tw_444 : (Jvm.Cond.instanceMethod ({ cls := "UnitKitchens$Film", name := "cooked", desc := "()I" } : Jvm.MethodName)) ∈ xT := xT_in 444 (by decide +kernel) rfl
theorem tw_445 : (Jvm.Cond.selects "UnitKitchens$Film" ({ cls := "UnitKitchens$Film", name := "cooked", desc := "()I" } : Jvm.MethodName) ({ cls := "UnitKitchens$Film", name := "cooked", desc := "()I" } : Jvm.MethodName)) ∈ xT := xT_in 445 (by decide +kernel) rfl
theorem tw_446 : (Jvm.Cond.code ({ cls := "UnitKitchens$Film", name := "cooked", desc := "()I" } : Jvm.MethodName) prog_2_method_26_code (3 : Nat) (Option.some Jvm.ClassFile.FieldType.int)) ∈ xT := xT_in 446 (by decide +kernel) rfl
theorem tw_447 : (Jvm.Cond.methodLink "UnitKitchens" (264 : Nat) ({ cls := "UnitKitchens$Film", name := "thrown", desc := "()I" } : Jvm.MethodName)) ∈ xT := xT_in 447 (by decide +kernel) rfl
theorem tw_448 : (Jvm.Cond.instanceMethod ({ cls := "UnitKitchens$Film", name := "thrown", desc := "()I" } : Jvm.MethodName)) ∈ xT := xT_in 448 (by decide +kernel) rfl
theorem tw_449 : (Jvm.Cond.selects "UnitKitchens$Film" ({ cls := "UnitKitchens$Film", name := "thrown", desc := "()I" } : Jvm.MethodName) ({ cls := "UnitKitchens$Film", name := "thrown", desc := "()I" } : Jvm.MethodName)) ∈ xT := xT_in 449 (by decide +kernel) rfl
theorem tw_450 : (Jvm.Cond.code ({ cls := "UnitKitchens$Film", name := "thrown", desc := "()I" } : Jvm.MethodName) prog_2_method_28_code (3 : Nat) (Option.some Jvm.ClassFile.FieldType.int)) ∈ xT := xT_in 450 (by decide +kernel) rfl
theorem tw_451 : (Jvm.Cond.methodLink "UnitKitchens" (267 : Nat) ({ cls := "UnitKitchens$Film", name := "mealsInKitchens", desc := "()I" } : Jvm.MethodName)) ∈ xT := xT_in 451 (by decide +kernel) rfl
theorem tw_452 : (Jvm.Cond.instanceMethod ({ cls := "UnitKitchens$Film", name := "mealsInKitchens", desc := "()I" } : Jvm.MethodName)) ∈ xT := xT_in 452 (by decide +kernel) rfl
theorem tw_453 : (Jvm.Cond.selects "UnitKitchens$Film" ({ cls := "UnitKitchens$Film", name := "mealsInKitchens", desc := "()I" } : Jvm.MethodName) ({ cls := "UnitKitchens$Film", name := "mealsInKitchens", desc := "()I" } : Jvm.MethodName)) ∈ xT := xT_in 453 (by decide +kernel) rfl
theorem tw_454 : (Jvm.Cond.code ({ cls := "UnitKitchens$Film", name := "mealsInKitchens", desc := "()I" } : Jvm.MethodName) prog_2_method_29_code (3 : Nat) (Option.some Jvm.ClassFile.FieldType.int)) ∈ xT := xT_in 454 (by decide +kernel) rfl
theorem tw_455 : (Jvm.Cond.methodLink "UnitKitchens$Film" (219 : Nat) ({ cls := "UnitKitchens$Meals", name := "inAll", desc := "()I" } : Jvm.MethodName)) ∈ xT := xT_in 455 (by decide +kernel) rfl
theorem tw_456 : (Jvm.Cond.instanceMethod ({ cls := "UnitKitchens$Meals", name := "inAll", desc := "()I" } : Jvm.MethodName)) ∈ xT := xT_in 456 (by decide +kernel) rfl
theorem tw_457 : (Jvm.Cond.selects "UnitKitchens$Meals" ({ cls := "UnitKitchens$Meals", name := "inAll", desc := "()I" } : Jvm.MethodName) ({ cls := "UnitKitchens$Meals", name := "inAll", desc := "()I" } : Jvm.MethodName)) ∈ xT := xT_in 457 (by decide +kernel) rfl
theorem tw_458 : (Jvm.Cond.code ({ cls := "UnitKitchens$Meals", name := "inAll", desc := "()I" } : Jvm.MethodName) prog_5_method_4_code (1 : Nat) (Option.some Jvm.ClassFile.FieldType.int)) ∈ xT := xT_in 458 (by decide +kernel) rfl
theorem tw_459 : (Jvm.Cond.methodLink "UnitKitchens" (270 : Nat) ({ cls := "UnitKitchens$Film", name := "mealsInLorries", desc := "()I" } : Jvm.MethodName)) ∈ xT := xT_in 459 (by decide +kernel) rfl
theorem tw_460 : (Jvm.Cond.instanceMethod ({ cls := "UnitKitchens$Film", name := "mealsInLorries", desc := "()I" } : Jvm.MethodName)) ∈ xT := xT_in 460 (by decide +kernel) rfl
theorem tw_461 : (Jvm.Cond.selects "UnitKitchens$Film" ({ cls := "UnitKitchens$Film", name := "mealsInLorries", desc := "()I" } : Jvm.MethodName) ({ cls := "UnitKitchens$Film", name := "mealsInLorries", desc := "()I" } : Jvm.MethodName)) ∈ xT := xT_in 461 (by decide +kernel) rfl
theorem tw_462 : (Jvm.Cond.code ({ cls := "UnitKitchens$Film", name := "mealsInLorries", desc := "()I" } : Jvm.MethodName) prog_2_method_30_code (3 : Nat) (Option.some Jvm.ClassFile.FieldType.int)) ∈ xT := xT_in 462 (by decide +kernel) rfl
theorem tw_463 : (Jvm.Cond.methodLink "UnitKitchens" (276 : Nat) ({ cls := "UnitKitchens$Film", name := "owed", desc := "()I" } : Jvm.MethodName)) ∈ xT := xT_in 463 (by decide +kernel) rfl
theorem tw_464 : (Jvm.Cond.instanceMethod ({ cls := "UnitKitchens$Film", name := "owed", desc := "()I" } : Jvm.MethodName)) ∈ xT := xT_in 464 (by decide +kernel) rfl
theorem tw_465 : (Jvm.Cond.selects "UnitKitchens$Film" ({ cls := "UnitKitchens$Film", name := "owed", desc := "()I" } : Jvm.MethodName) ({ cls := "UnitKitchens$Film", name := "owed", desc := "()I" } : Jvm.MethodName)) ∈ xT := xT_in 465 (by decide +kernel) rfl
theorem tw_466 : (Jvm.Cond.code ({ cls := "UnitKitchens$Film", name := "owed", desc := "()I" } : Jvm.MethodName) prog_2_method_31_code (3 : Nat) (Option.some Jvm.ClassFile.FieldType.int)) ∈ xT := xT_in 466 (by decide +kernel) rfl
theorem tw_467 : (Jvm.Cond.methodLink "UnitKitchens$Film" (149 : Nat) ({ cls := "UnitKitchens$Unit", name := "owed", desc := "()I" } : Jvm.MethodName)) ∈ xT := xT_in 467 (by decide +kernel) rfl
theorem tw_468 : (Jvm.Cond.instanceMethod ({ cls := "UnitKitchens$Unit", name := "owed", desc := "()I" } : Jvm.MethodName)) ∈ xT := xT_in 468 (by decide +kernel) rfl
theorem tw_469 : (Jvm.Cond.selects "UnitKitchens$Unit" ({ cls := "UnitKitchens$Unit", name := "owed", desc := "()I" } : Jvm.MethodName) ({ cls := "UnitKitchens$Unit", name := "owed", desc := "()I" } : Jvm.MethodName)) ∈ xT := xT_in 469 (by decide +kernel) rfl
theorem tw_470 : (Jvm.Cond.code ({ cls := "UnitKitchens$Unit", name := "owed", desc := "()I" } : Jvm.MethodName) prog_8_method_3_code (1 : Nat) (Option.some Jvm.ClassFile.FieldType.int)) ∈ xT := xT_in 470 (by decide +kernel) rfl
theorem tw_471 : (Jvm.Cond.methodLink "UnitKitchens" (277 : Nat) ({ cls := "UnitKitchens$Film", name := "cancelled", desc := "()I" } : Jvm.MethodName)) ∈ xT := xT_in 471 (by decide +kernel) rfl
theorem tw_472 : (Jvm.Cond.instanceMethod ({ cls := "UnitKitchens$Film", name := "cancelled", desc := "()I" } : Jvm.MethodName)) ∈ xT := xT_in 472 (by decide +kernel) rfl
theorem tw_473 : (Jvm.Cond.selects "UnitKitchens$Film" ({ cls := "UnitKitchens$Film", name := "cancelled", desc := "()I" } : Jvm.MethodName) ({ cls := "UnitKitchens$Film", name := "cancelled", desc := "()I" } : Jvm.MethodName)) ∈ xT := xT_in 473 (by decide +kernel) rfl
theorem tw_474 : (Jvm.Cond.code ({ cls := "UnitKitchens$Film", name := "cancelled", desc := "()I" } : Jvm.MethodName) prog_2_method_32_code (3 : Nat) (Option.some Jvm.ClassFile.FieldType.int)) ∈ xT := xT_in 474 (by decide +kernel) rfl
theorem tw_475 : (Jvm.Cond.methodLink "UnitKitchens" (279 : Nat) ({ cls := "UnitKitchens$Film", name := "penalties", desc := "()I" } : Jvm.MethodName)) ∈ xT := xT_in 475 (by decide +kernel) rfl
theorem tw_476 : (Jvm.Cond.instanceMethod ({ cls := "UnitKitchens$Film", name := "penalties", desc := "()I" } : Jvm.MethodName)) ∈ xT := xT_in 476 (by decide +kernel) rfl
theorem tw_477 : (Jvm.Cond.selects "UnitKitchens$Film" ({ cls := "UnitKitchens$Film", name := "penalties", desc := "()I" } : Jvm.MethodName) ({ cls := "UnitKitchens$Film", name := "penalties", desc := "()I" } : Jvm.MethodName)) ∈ xT := xT_in 477 (by decide +kernel) rfl
theorem tw_478 : (Jvm.Cond.code ({ cls := "UnitKitchens$Film", name := "penalties", desc := "()I" } : Jvm.MethodName) prog_2_method_33_code (3 : Nat) (Option.some Jvm.ClassFile.FieldType.int)) ∈ xT := xT_in 478 (by decide +kernel) rfl
theorem tw_479 : (Jvm.Cond.methodLink "UnitKitchens" (305 : Nat) ({ cls := "UnitKitchens", name := "hashPlaces", desc := "(J)J" } : Jvm.MethodName)) ∈ xT := xT_in 479 (by decide +kernel) rfl
theorem tw_481 : (Jvm.Cond.instanceMethod ({ cls := "UnitKitchens", name := "hashPlaces", desc := "(J)J" } : Jvm.MethodName)) ∈ xT := xT_in 481 (by decide +kernel) rfl
theorem tw_482 : (Jvm.Cond.code ({ cls := "UnitKitchens", name := "hashPlaces", desc := "(J)J" } : Jvm.MethodName) prog_1_method_44_code (7 : Nat) (Option.some Jvm.ClassFile.FieldType.long)) ∈ xT := xT_in 482 (by decide +kernel) rfl
theorem tw_483 : (Jvm.Cond.methodLink "UnitKitchens" (368 : Nat) ({ cls := "UnitKitchens", name := "place", desc := "(II)I" } : Jvm.MethodName)) ∈ xT := xT_in 483 (by decide +kernel) rfl
theorem tw_484 : (Jvm.Cond.instanceMethod ({ cls := "UnitKitchens", name := "place", desc := "(II)I" } : Jvm.MethodName)) ∈ xT := xT_in 484 (by decide +kernel) rfl
theorem tw_485 : (Jvm.Cond.selects "UnitKitchens" ({ cls := "UnitKitchens", name := "place", desc := "(II)I" } : Jvm.MethodName) ({ cls := "UnitKitchens", name := "place", desc := "(II)I" } : Jvm.MethodName)) ∈ xT := xT_in 485 (by decide +kernel) rfl
theorem tw_486 : (Jvm.Cond.code ({ cls := "UnitKitchens", name := "place", desc := "(II)I" } : Jvm.MethodName) prog_1_method_22_code (3 : Nat) (Option.some Jvm.ClassFile.FieldType.int)) ∈ xT := xT_in 486 (by decide +kernel) rfl
theorem tw_487 : (Jvm.Cond.methodLink "UnitKitchens" (60 : Nat) ({ cls := "UnitKitchens", name := "requireIndex", desc := "(II)V" } : Jvm.MethodName)) ∈ xT := xT_in 487 (by decide +kernel) rfl
theorem tw_488 : (Jvm.Cond.static ({ cls := "UnitKitchens", name := "requireIndex", desc := "(II)V" } : Jvm.MethodName)) ∈ xT := xT_in 488 (by decide +kernel) rfl
theorem tw_489 : (Jvm.Cond.code ({ cls := "UnitKitchens", name := "requireIndex", desc := "(II)V" } : Jvm.MethodName) prog_1_method_35_code (2 : Nat) (Option.none : Option Jvm.ClassFile.FieldType)) ∈ xT := xT_in 489 (by decide +kernel) rfl
theorem tw_490 : (Jvm.Cond.classLink "UnitKitchens" (329 : Nat) "java/lang/IndexOutOfBoundsException") ∈ xT := xT_in 490 (by decide +kernel) rfl
theorem tw_491 : (Jvm.Cond.instantiable "java/lang/IndexOutOfBoundsException" (6 : Nat)) ∈ xT := xT_in 491 (by decide +kernel) rfl
theorem tw_493 : (Jvm.Cond.selects "java/lang/IndexOutOfBoundsException" ({ cls := "java/lang/Throwable", name := "fillInStackTrace", desc := "(I)Ljava/lang/Throwable;" } : Jvm.MethodName) ({ cls := "java/lang/Throwable", name := "fillInStackTrace", desc := "(I)Ljava/lang/Throwable;" } : Jvm.MethodName)) ∈ xT := xT_in 493 (by decide +kernel) rfl
theorem tw_494 : (Jvm.Cond.lays "java/lang/IndexOutOfBoundsException" "java/lang/Throwable" "cause" "Ljava/lang/Throwable;") ∈ xT := xT_in 494 (by decide +kernel) rfl
theorem tw_495 : (Jvm.Cond.lays "java/lang/IndexOutOfBoundsException" "java/lang/Throwable" "stackTrace" "[Ljava/lang/StackTraceElement;") ∈ xT := xT_in 495 (by decide +kernel) rfl
theorem tw_496 : (Jvm.Cond.lays "java/lang/IndexOutOfBoundsException" "java/lang/Throwable" "suppressedExceptions" "Ljava/util/List;") ∈ xT := xT_in 496 (by decide +kernel) rfl
theorem tw_497 : (Jvm.Cond.lays "java/lang/IndexOutOfBoundsException" "java/lang/Throwable" "detailMessage" "Ljava/lang/String;") ∈ xT := xT_in 497 (by decide +kernel) rfl
theorem tw_498 : (Jvm.Cond.lays "java/lang/IndexOutOfBoundsException" "java/lang/Throwable" "backtrace" "Ljava/lang/Object;") ∈ xT := xT_in 498 (by decide +kernel) rfl
theorem tw_500 : (Jvm.Cond.methodLink "UnitKitchens" (333 : Nat) ({ cls := "java/lang/IndexOutOfBoundsException", name := "<init>", desc := "(Ljava/lang/String;)V" } : Jvm.MethodName)) ∈ xT := xT_in 500 (by decide +kernel) rfl
theorem tw_501 : (Jvm.Cond.instanceMethod ({ cls := "java/lang/IndexOutOfBoundsException", name := "<init>", desc := "(Ljava/lang/String;)V" } : Jvm.MethodName)) ∈ xT := xT_in 501 (by decide +kernel) rfl
theorem tw_502 : (Jvm.Cond.code ({ cls := "java/lang/IndexOutOfBoundsException", name := "<init>", desc := "(Ljava/lang/String;)V" } : Jvm.MethodName) prog_16_method_2_code (2 : Nat) (Option.none : Option Jvm.ClassFile.FieldType)) ∈ xT := xT_in 502 (by decide +kernel) rfl
theorem tw_503 : (Jvm.Cond.methodLink "java/lang/IndexOutOfBoundsException" (7 : Nat) ({ cls := "java/lang/RuntimeException", name := "<init>", desc := "(Ljava/lang/String;)V" } : Jvm.MethodName)) ∈ xT := xT_in 503 (by decide +kernel) rfl
theorem tw_504 : (Jvm.Cond.lays "java/lang/IndexOutOfBoundsException" "java/lang/Throwable" "depth" "I") ∈ xT := xT_in 504 (by decide +kernel) rfl
theorem tw_506 : (Jvm.Cond.methodLink "UnitKitchens" (235 : Nat) ({ cls := "UnitKitchens$Film", name := "unitsAt", desc := "(I)I" } : Jvm.MethodName)) ∈ xT := xT_in 506 (by decide +kernel) rfl
theorem tw_507 : (Jvm.Cond.instanceMethod ({ cls := "UnitKitchens$Film", name := "unitsAt", desc := "(I)I" } : Jvm.MethodName)) ∈ xT := xT_in 507 (by decide +kernel) rfl
theorem tw_508 : (Jvm.Cond.selects "UnitKitchens$Film" ({ cls := "UnitKitchens$Film", name := "unitsAt", desc := "(I)I" } : Jvm.MethodName) ({ cls := "UnitKitchens$Film", name := "unitsAt", desc := "(I)I" } : Jvm.MethodName)) ∈ xT := xT_in 508 (by decide +kernel) rfl
theorem tw_509 : (Jvm.Cond.code ({ cls := "UnitKitchens$Film", name := "unitsAt", desc := "(I)I" } : Jvm.MethodName) prog_2_method_19_code (4 : Nat) (Option.some Jvm.ClassFile.FieldType.int)) ∈ xT := xT_in 509 (by decide +kernel) rfl
theorem tw_510 : (Jvm.Cond.methodLink "UnitKitchens" (238 : Nat) ({ cls := "UnitKitchens$Film", name := "kitchensAt", desc := "(I)I" } : Jvm.MethodName)) ∈ xT := xT_in 510 (by decide +kernel) rfl
theorem tw_511 : (Jvm.Cond.instanceMethod ({ cls := "UnitKitchens$Film", name := "kitchensAt", desc := "(I)I" } : Jvm.MethodName)) ∈ xT := xT_in 511 (by decide +kernel) rfl
theorem tw_512 : (Jvm.Cond.selects "UnitKitchens$Film" ({ cls := "UnitKitchens$Film", name := "kitchensAt", desc := "(I)I" } : Jvm.MethodName) ({ cls := "UnitKitchens$Film", name := "kitchensAt", desc := "(I)I" } : Jvm.MethodName)) ∈ xT := xT_in 512 (by decide +kernel) rfl
theorem tw_513 : (Jvm.Cond.code ({ cls := "UnitKitchens$Film", name := "kitchensAt", desc := "(I)I" } : Jvm.MethodName) prog_2_method_20_code (4 : Nat) (Option.some Jvm.ClassFile.FieldType.int)) ∈ xT := xT_in 513 (by decide +kernel) rfl
theorem tw_514 : (Jvm.Cond.methodLink "UnitKitchens" (241 : Nat) ({ cls := "UnitKitchens$Film", name := "lorriesAt", desc := "(I)I" } : Jvm.MethodName)) ∈ xT := xT_in 514 (by decide +kernel) rfl
theorem tw_515 : (Jvm.Cond.instanceMethod ({ cls := "UnitKitchens$Film", name := "lorriesAt", desc := "(I)I" } : Jvm.MethodName)) ∈ xT := xT_in 515 (by decide +kernel) rfl
theorem tw_516 : (Jvm.Cond.selects "UnitKitchens$Film" ({ cls := "UnitKitchens$Film", name := "lorriesAt", desc := "(I)I" } : Jvm.MethodName) ({ cls := "UnitKitchens$Film", name := "lorriesAt", desc := "(I)I" } : Jvm.MethodName)) ∈ xT := xT_in 516 (by decide +kernel) rfl
theorem tw_517 : (Jvm.Cond.code ({ cls := "UnitKitchens$Film", name := "lorriesAt", desc := "(I)I" } : Jvm.MethodName) prog_2_method_21_code (4 : Nat) (Option.some Jvm.ClassFile.FieldType.int)) ∈ xT := xT_in 517 (by decide +kernel) rfl
theorem tw_518 : (Jvm.Cond.methodLink "UnitKitchens" (244 : Nat) ({ cls := "UnitKitchens$Film", name := "mealsAt", desc := "(I)I" } : Jvm.MethodName)) ∈ xT := xT_in 518 (by decide +kernel) rfl
theorem tw_519 : (Jvm.Cond.instanceMethod ({ cls := "UnitKitchens$Film", name := "mealsAt", desc := "(I)I" } : Jvm.MethodName)) ∈ xT := xT_in 519 (by decide +kernel) rfl
theorem tw_520 : (Jvm.Cond.selects "UnitKitchens$Film" ({ cls := "UnitKitchens$Film", name := "mealsAt", desc := "(I)I" } : Jvm.MethodName) ({ cls := "UnitKitchens$Film", name := "mealsAt", desc := "(I)I" } : Jvm.MethodName)) ∈ xT := xT_in 520 (by decide +kernel) rfl
theorem tw_521 : (Jvm.Cond.code ({ cls := "UnitKitchens$Film", name := "mealsAt", desc := "(I)I" } : Jvm.MethodName) prog_2_method_22_code (4 : Nat) (Option.some Jvm.ClassFile.FieldType.int)) ∈ xT := xT_in 521 (by decide +kernel) rfl
theorem tw_522 : (Jvm.Cond.methodLink "UnitKitchens" (247 : Nat) ({ cls := "UnitKitchens$Film", name := "owedAt", desc := "(I)I" } : Jvm.MethodName)) ∈ xT := xT_in 522 (by decide +kernel) rfl
theorem tw_523 : (Jvm.Cond.instanceMethod ({ cls := "UnitKitchens$Film", name := "owedAt", desc := "(I)I" } : Jvm.MethodName)) ∈ xT := xT_in 523 (by decide +kernel) rfl
theorem tw_524 : (Jvm.Cond.selects "UnitKitchens$Film" ({ cls := "UnitKitchens$Film", name := "owedAt", desc := "(I)I" } : Jvm.MethodName) ({ cls := "UnitKitchens$Film", name := "owedAt", desc := "(I)I" } : Jvm.MethodName)) ∈ xT := xT_in 524 (by decide +kernel) rfl
theorem tw_525 : (Jvm.Cond.code ({ cls := "UnitKitchens$Film", name := "owedAt", desc := "(I)I" } : Jvm.MethodName) prog_2_method_23_code (4 : Nat) (Option.some Jvm.ClassFile.FieldType.int)) ∈ xT := xT_in 525 (by decide +kernel) rfl
theorem tw_526 : (Jvm.Cond.methodLink "UnitKitchens" (309 : Nat) ({ cls := "UnitKitchens", name := "hashUnits", desc := "(J)J" } : Jvm.MethodName)) ∈ xT := xT_in 526 (by decide +kernel) rfl
theorem tw_528 : (Jvm.Cond.instanceMethod ({ cls := "UnitKitchens", name := "hashUnits", desc := "(J)J" } : Jvm.MethodName)) ∈ xT := xT_in 528 (by decide +kernel) rfl
theorem tw_529 : (Jvm.Cond.code ({ cls := "UnitKitchens", name := "hashUnits", desc := "(J)J" } : Jvm.MethodName) prog_1_method_45_code (7 : Nat) (Option.some Jvm.ClassFile.FieldType.long)) ∈ xT := xT_in 529 (by decide +kernel) rfl
theorem tw_530 : (Jvm.Cond.methodLink "UnitKitchens" (370 : Nat) ({ cls := "UnitKitchens", name := "unit", desc := "(II)I" } : Jvm.MethodName)) ∈ xT := xT_in 530 (by decide +kernel) rfl
theorem tw_531 : (Jvm.Cond.instanceMethod ({ cls := "UnitKitchens", name := "unit", desc := "(II)I" } : Jvm.MethodName)) ∈ xT := xT_in 531 (by decide +kernel) rfl
theorem tw_532 : (Jvm.Cond.selects "UnitKitchens" ({ cls := "UnitKitchens", name := "unit", desc := "(II)I" } : Jvm.MethodName) ({ cls := "UnitKitchens", name := "unit", desc := "(II)I" } : Jvm.MethodName)) ∈ xT := xT_in 532 (by decide +kernel) rfl
theorem tw_533 : (Jvm.Cond.code ({ cls := "UnitKitchens", name := "unit", desc := "(II)I" } : Jvm.MethodName) prog_1_method_23_code (3 : Nat) (Option.some Jvm.ClassFile.FieldType.int)) ∈ xT := xT_in 533 (by decide +kernel) rfl
theorem tw_534 : (Jvm.Cond.methodLink "UnitKitchens" (250 : Nat) ({ cls := "UnitKitchens$Unit", name := "property", desc := "(I)I" } : Jvm.MethodName)) ∈ xT := xT_in 534 (by decide +kernel) rfl
theorem tw_535 : (Jvm.Cond.instanceMethod ({ cls := "UnitKitchens$Unit", name := "property", desc := "(I)I" } : Jvm.MethodName)) ∈ xT := xT_in 535 (by decide +kernel) rfl
theorem tw_536 : (Jvm.Cond.selects "UnitKitchens$Unit" ({ cls := "UnitKitchens$Unit", name := "property", desc := "(I)I" } : Jvm.MethodName) ({ cls := "UnitKitchens$Unit", name := "property", desc := "(I)I" } : Jvm.MethodName)) ∈ xT := xT_in 536 (by decide +kernel) rfl
theorem tw_537 : (Jvm.Cond.code ({ cls := "UnitKitchens$Unit", name := "property", desc := "(I)I" } : Jvm.MethodName) prog_8_method_12_code (2 : Nat) (Option.some Jvm.ClassFile.FieldType.int)) ∈ xT := xT_in 537 (by decide +kernel) rfl
theorem tw_538 : (Jvm.Cond.methodLink "UnitKitchens" (373 : Nat) ({ cls := "UnitKitchens", name := "bestLorry", desc := "(I)I" } : Jvm.MethodName)) ∈ xT := xT_in 538 (by decide +kernel) rfl
theorem tw_539 : (Jvm.Cond.instanceMethod ({ cls := "UnitKitchens", name := "bestLorry", desc := "(I)I" } : Jvm.MethodName)) ∈ xT := xT_in 539 (by decide +kernel) rfl
theorem tw_540 : (Jvm.Cond.selects "UnitKitchens" ({ cls := "UnitKitchens", name := "bestLorry", desc := "(I)I" } : Jvm.MethodName) ({ cls := "UnitKitchens", name := "bestLorry", desc := "(I)I" } : Jvm.MethodName)) ∈ xT := xT_in 540 (by decide +kernel) rfl
theorem tw_541 : (Jvm.Cond.code ({ cls := "UnitKitchens", name := "bestLorry", desc := "(I)I" } : Jvm.MethodName) prog_1_method_31_code (3 : Nat) (Option.some Jvm.ClassFile.FieldType.int)) ∈ xT := xT_in 541 (by decide +kernel) rfl
theorem tw_542 : (Jvm.Cond.methodLink "UnitKitchens" (291 : Nat) ({ cls := "UnitKitchens$Film", name := "lorryFor", desc := "(LUnitKitchens$Unit;)I" } : Jvm.MethodName)) ∈ xT := xT_in 542 (by decide +kernel) rfl
theorem tw_543 : (Jvm.Cond.instanceMethod ({ cls := "UnitKitchens$Film", name := "lorryFor", desc := "(LUnitKitchens$Unit;)I" } : Jvm.MethodName)) ∈ xT := xT_in 543 (by decide +kernel) rfl
theorem tw_544 : (Jvm.Cond.selects "UnitKitchens$Film" ({ cls := "UnitKitchens$Film", name := "lorryFor", desc := "(LUnitKitchens$Unit;)I" } : Jvm.MethodName) ({ cls := "UnitKitchens$Film", name := "lorryFor", desc := "(LUnitKitchens$Unit;)I" } : Jvm.MethodName)) ∈ xT := xT_in 544 (by decide +kernel) rfl
theorem tw_545 : (Jvm.Cond.code ({ cls := "UnitKitchens$Film", name := "lorryFor", desc := "(LUnitKitchens$Unit;)I" } : Jvm.MethodName) prog_2_method_18_code (9 : Nat) (Option.some Jvm.ClassFile.FieldType.int)) ∈ xT := xT_in 545 (by decide +kernel) rfl
theorem tw_546 : (Jvm.Cond.methodLink "UnitKitchens$Film" (211 : Nat) ({ cls := "UnitKitchens$Meals", name := "eatenBy", desc := "(LUnitKitchens$Unit;)I" } : Jvm.MethodName)) ∈ xT := xT_in 546 (by decide +kernel) rfl
theorem tw_547 : (Jvm.Cond.instanceMethod ({ cls := "UnitKitchens$Meals", name := "eatenBy", desc := "(LUnitKitchens$Unit;)I" } : Jvm.MethodName)) ∈ xT := xT_in 547 (by decide +kernel) rfl
theorem tw_548 : (Jvm.Cond.selects "UnitKitchens$Meals" ({ cls := "UnitKitchens$Meals", name := "eatenBy", desc := "(LUnitKitchens$Unit;)I" } : Jvm.MethodName) ({ cls := "UnitKitchens$Meals", name := "eatenBy", desc := "(LUnitKitchens$Unit;)I" } : Jvm.MethodName)) ∈ xT := xT_in 548 (by decide +kernel) rfl
theorem tw_549 : (Jvm.Cond.code ({ cls := "UnitKitchens$Meals", name := "eatenBy", desc := "(LUnitKitchens$Unit;)I" } : Jvm.MethodName) prog_5_method_6_code (2 : Nat) (Option.some Jvm.ClassFile.FieldType.int)) ∈ xT := xT_in 549 (by decide +kernel) rfl
theorem tw_550 : (Jvm.Cond.methodLink "UnitKitchens$Meals" (24 : Nat) ({ cls := "UnitKitchens$Meals", name := "inAll", desc := "()I" } : Jvm.MethodName)) ∈ xT := xT_in 550 (by decide +kernel) rfl
theorem tw_551 : (Jvm.Cond.methodLink "UnitKitchens$Meals" (37 : Nat) ({ cls := "UnitKitchens$Meals", name := "ofKind", desc := "(Z)I" } : Jvm.MethodName)) ∈ xT := xT_in 551 (by decide +kernel) rfl
theorem tw_552 : (Jvm.Cond.instanceMethod ({ cls := "UnitKitchens$Meals", name := "ofKind", desc := "(Z)I" } : Jvm.MethodName)) ∈ xT := xT_in 552 (by decide +kernel) rfl
theorem tw_553 : (Jvm.Cond.selects "UnitKitchens$Meals" ({ cls := "UnitKitchens$Meals", name := "ofKind", desc := "(Z)I" } : Jvm.MethodName) ({ cls := "UnitKitchens$Meals", name := "ofKind", desc := "(Z)I" } : Jvm.MethodName)) ∈ xT := xT_in 553 (by decide +kernel) rfl
theorem tw_554 : (Jvm.Cond.code ({ cls := "UnitKitchens$Meals", name := "ofKind", desc := "(Z)I" } : Jvm.MethodName) prog_5_method_5_code (2 : Nat) (Option.some Jvm.ClassFile.FieldType.int)) ∈ xT := xT_in 554 (by decide +kernel) rfl
theorem tw_555 : (Jvm.Cond.methodLink "UnitKitchens$Film" (215 : Nat) ({ cls := "UnitKitchens$Film", name := "minutesTo", desc := "(ILUnitKitchens$Lorry;)I" } : Jvm.MethodName)) ∈ xT := xT_in 555 (by decide +kernel) rfl
theorem tw_556 : (Jvm.Cond.instanceMethod ({ cls := "UnitKitchens$Film", name := "minutesTo", desc := "(ILUnitKitchens$Lorry;)I" } : Jvm.MethodName)) ∈ xT := xT_in 556 (by decide +kernel) rfl
theorem tw_557 : (Jvm.Cond.selects "UnitKitchens$Film" ({ cls := "UnitKitchens$Film", name := "minutesTo", desc := "(ILUnitKitchens$Lorry;)I" } : Jvm.MethodName) ({ cls := "UnitKitchens$Film", name := "minutesTo", desc := "(ILUnitKitchens$Lorry;)I" } : Jvm.MethodName)) ∈ xT := xT_in 557 (by decide +kernel) rfl
theorem tw_558 : (Jvm.Cond.code ({ cls := "UnitKitchens$Film", name := "minutesTo", desc := "(ILUnitKitchens$Lorry;)I" } : Jvm.MethodName) prog_2_method_17_code (4 : Nat) (Option.some Jvm.ClassFile.FieldType.int)) ∈ xT := xT_in 558 (by decide +kernel) rfl
theorem tw_559 : (Jvm.Cond.methodLink "UnitKitchens$Film" (208 : Nat) ({ cls := "UnitKitchens$Film", name := "driveMinutes", desc := "(II)I" } : Jvm.MethodName)) ∈ xT := xT_in 559 (by decide +kernel) rfl
theorem tw_560 : (Jvm.Cond.instanceMethod ({ cls := "UnitKitchens$Film", name := "driveMinutes", desc := "(II)I" } : Jvm.MethodName)) ∈ xT := xT_in 560 (by decide +kernel) rfl
theorem tw_561 : (Jvm.Cond.selects "UnitKitchens$Film" ({ cls := "UnitKitchens$Film", name := "driveMinutes", desc := "(II)I" } : Jvm.MethodName) ({ cls := "UnitKitchens$Film", name := "driveMinutes", desc := "(II)I" } : Jvm.MethodName)) ∈ xT := xT_in 561 (by decide +kernel) rfl
theorem tw_562 : (Jvm.Cond.code ({ cls := "UnitKitchens$Film", name := "driveMinutes", desc := "(II)I" } : Jvm.MethodName) prog_2_method_16_code (4 : Nat) (Option.some Jvm.ClassFile.FieldType.int)) ∈ xT := xT_in 562 (by decide +kernel) rfl
theorem tw_563 : (Jvm.Cond.methodLink "UnitKitchens$Film" (189 : Nat) ({ cls := "UnitKitchens$Film", name := "isPlace", desc := "(I)Z" } : Jvm.MethodName)) ∈ xT := xT_in 563 (by decide +kernel) rfl
theorem tw_564 : (Jvm.Cond.instanceMethod ({ cls := "UnitKitchens$Film", name := "isPlace", desc := "(I)Z" } : Jvm.MethodName)) ∈ xT := xT_in 564 (by decide +kernel) rfl
theorem tw_565 : (Jvm.Cond.selects "UnitKitchens$Film" ({ cls := "UnitKitchens$Film", name := "isPlace", desc := "(I)Z" } : Jvm.MethodName) ({ cls := "UnitKitchens$Film", name := "isPlace", desc := "(I)Z" } : Jvm.MethodName)) ∈ xT := xT_in 565 (by decide +kernel) rfl
theorem tw_566 : (Jvm.Cond.code ({ cls := "UnitKitchens$Film", name := "isPlace", desc := "(I)Z" } : Jvm.MethodName) prog_2_method_15_code (2 : Nat) (Option.some Jvm.ClassFile.FieldType.boolean)) ∈ xT := xT_in 566 (by decide +kernel) rfl
theorem tw_567 : (Jvm.Cond.methodLink "UnitKitchens$Film" (193 : Nat) ({ cls := "java/lang/Math", name := "abs", desc := "(I)I" } : Jvm.MethodName)) ∈ xT := xT_in 567 (by decide +kernel) rfl
theorem tw_568 : (Jvm.Cond.static ({ cls := "java/lang/Math", name := "abs", desc := "(I)I" } : Jvm.MethodName)) ∈ xT := xT_in 568 (by decide +kernel) rfl
theorem tw_569 : (Jvm.Cond.code ({ cls := "java/lang/Math", name := "abs", desc := "(I)I" } : Jvm.MethodName) prog_17_method_59_code (1 : Nat) (Option.some Jvm.ClassFile.FieldType.int)) ∈ xT := xT_in 569 (by decide +kernel) rfl
theorem tw_571 : (Jvm.Cond.static ({ cls := "UnitKitchens", name := "dividedUp", desc := "(II)I" } : Jvm.MethodName)) ∈ xT := xT_in 571 (by decide +kernel) rfl
theorem tw_572 : (Jvm.Cond.code ({ cls := "UnitKitchens", name := "dividedUp", desc := "(II)I" } : Jvm.MethodName) prog_1_method_38_code (2 : Nat) (Option.some Jvm.ClassFile.FieldType.int)) ∈ xT := xT_in 572 (by decide +kernel) rfl
theorem tw_573 : (Jvm.Cond.methodLink "UnitKitchens$Film" (199 : Nat) ({ cls := "java/lang/Math", name := "max", desc := "(II)I" } : Jvm.MethodName)) ∈ xT := xT_in 573 (by decide +kernel) rfl
theorem tw_574 : (Jvm.Cond.static ({ cls := "java/lang/Math", name := "max", desc := "(II)I" } : Jvm.MethodName)) ∈ xT := xT_in 574 (by decide +kernel) rfl
theorem tw_575 : (Jvm.Cond.code ({ cls := "java/lang/Math", name := "max", desc := "(II)I" } : Jvm.MethodName) prog_17_method_65_code (2 : Nat) (Option.some Jvm.ClassFile.FieldType.int)) ∈ xT := xT_in 575 (by decide +kernel) rfl
theorem tw_576 : (Jvm.Cond.methodLink "UnitKitchens" (312 : Nat) ({ cls := "UnitKitchens", name := "hashKitchens", desc := "(J)J" } : Jvm.MethodName)) ∈ xT := xT_in 576 (by decide +kernel) rfl
theorem tw_578 : (Jvm.Cond.instanceMethod ({ cls := "UnitKitchens", name := "hashKitchens", desc := "(J)J" } : Jvm.MethodName)) ∈ xT := xT_in 578 (by decide +kernel) rfl
theorem tw_579 : (Jvm.Cond.code ({ cls := "UnitKitchens", name := "hashKitchens", desc := "(J)J" } : Jvm.MethodName) prog_1_method_46_code (7 : Nat) (Option.some Jvm.ClassFile.FieldType.long)) ∈ xT := xT_in 579 (by decide +kernel) rfl
theorem tw_580 : (Jvm.Cond.methodLink "UnitKitchens" (376 : Nat) ({ cls := "UnitKitchens", name := "kitchen", desc := "(II)I" } : Jvm.MethodName)) ∈ xT := xT_in 580 (by decide +kernel) rfl
theorem tw_581 : (Jvm.Cond.instanceMethod ({ cls := "UnitKitchens", name := "kitchen", desc := "(II)I" } : Jvm.MethodName)) ∈ xT := xT_in 581 (by decide +kernel) rfl
theorem tw_582 : (Jvm.Cond.selects "UnitKitchens" ({ cls := "UnitKitchens", name := "kitchen", desc := "(II)I" } : Jvm.MethodName) ({ cls := "UnitKitchens", name := "kitchen", desc := "(II)I" } : Jvm.MethodName)) ∈ xT := xT_in 582 (by decide +kernel) rfl
theorem tw_583 : (Jvm.Cond.code ({ cls := "UnitKitchens", name := "kitchen", desc := "(II)I" } : Jvm.MethodName) prog_1_method_24_code (3 : Nat) (Option.some Jvm.ClassFile.FieldType.int)) ∈ xT := xT_in 583 (by decide +kernel) rfl
theorem tw_584 : (Jvm.Cond.methodLink "UnitKitchens" (253 : Nat) ({ cls := "UnitKitchens$Kitchen", name := "property", desc := "(II)I" } : Jvm.MethodName)) ∈ xT := xT_in 584 (by decide +kernel) rfl
theorem tw_585 : (Jvm.Cond.instanceMethod ({ cls := "UnitKitchens$Kitchen", name := "property", desc := "(II)I" } : Jvm.MethodName)) ∈ xT := xT_in 585 (by decide +kernel) rfl
theorem tw_586 : (Jvm.Cond.selects "UnitKitchens$Kitchen" ({ cls := "UnitKitchens$Kitchen", name := "property", desc := "(II)I" } : Jvm.MethodName) ({ cls := "UnitKitchens$Kitchen", name := "property", desc := "(II)I" } : Jvm.MethodName)) ∈ xT := xT_in 586 (by decide +kernel) rfl
theorem tw_587 : (Jvm.Cond.code ({ cls := "UnitKitchens$Kitchen", name := "property", desc := "(II)I" } : Jvm.MethodName) prog_3_method_6_code (3 : Nat) (Option.some Jvm.ClassFile.FieldType.int)) ∈ xT := xT_in 587 (by decide +kernel) rfl
theorem tw_588 : (Jvm.Cond.methodLink "UnitKitchens$Kitchen" (64 : Nat) ({ cls := "UnitKitchens$Meals", name := "oldest", desc := "(I)I" } : Jvm.MethodName)) ∈ xT := xT_in 588 (by decide +kernel) rfl
theorem tw_589 : (Jvm.Cond.instanceMethod ({ cls := "UnitKitchens$Meals", name := "oldest", desc := "(I)I" } : Jvm.MethodName)) ∈ xT := xT_in 589 (by decide +kernel) rfl
theorem tw_590 : (Jvm.Cond.selects "UnitKitchens$Meals" ({ cls := "UnitKitchens$Meals", name := "oldest", desc := "(I)I" } : Jvm.MethodName) ({ cls := "UnitKitchens$Meals", name := "oldest", desc := "(I)I" } : Jvm.MethodName)) ∈ xT := xT_in 590 (by decide +kernel) rfl
theorem tw_591 : (Jvm.Cond.code ({ cls := "UnitKitchens$Meals", name := "oldest", desc := "(I)I" } : Jvm.MethodName) prog_5_method_12_code (4 : Nat) (Option.some Jvm.ClassFile.FieldType.int)) ∈ xT := xT_in 591 (by decide +kernel) rfl
theorem tw_592 : (Jvm.Cond.methodLink "UnitKitchens$Meals" (41 : Nat) ({ cls := "UnitKitchens$Meals", name := "slot", desc := "(II)I" } : Jvm.MethodName)) ∈ xT := xT_in 592 (by decide +kernel) rfl
theorem tw_593 : (Jvm.Cond.static ({ cls := "UnitKitchens$Meals", name := "slot", desc := "(II)I" } : Jvm.MethodName)) ∈ xT := xT_in 593 (by decide +kernel) rfl
theorem tw_594 : (Jvm.Cond.code ({ cls := "UnitKitchens$Meals", name := "slot", desc := "(II)I" } : Jvm.MethodName) prog_5_method_3_code (2 : Nat) (Option.some Jvm.ClassFile.FieldType.int)) ∈ xT := xT_in 594 (by decide +kernel) rfl
theorem tw_595 : (Jvm.Cond.methodLink "UnitKitchens" (379 : Nat) ({ cls := "UnitKitchens", name := "canCook", desc := "(II)I" } : Jvm.MethodName)) ∈ xT := xT_in 595 (by decide +kernel) rfl
theorem tw_596 : (Jvm.Cond.instanceMethod ({ cls := "UnitKitchens", name := "canCook", desc := "(II)I" } : Jvm.MethodName)) ∈ xT := xT_in 596 (by decide +kernel) rfl
theorem tw_597 : (Jvm.Cond.selects "UnitKitchens" ({ cls := "UnitKitchens", name := "canCook", desc := "(II)I" } : Jvm.MethodName) ({ cls := "UnitKitchens", name := "canCook", desc := "(II)I" } : Jvm.MethodName)) ∈ xT := xT_in 597 (by decide +kernel) rfl
theorem tw_598 : (Jvm.Cond.code ({ cls := "UnitKitchens", name := "canCook", desc := "(II)I" } : Jvm.MethodName) prog_1_method_30_code (3 : Nat) (Option.some Jvm.ClassFile.FieldType.int)) ∈ xT := xT_in 598 (by decide +kernel) rfl
theorem tw_599 : (Jvm.Cond.methodLink "UnitKitchens" (99 : Nat) ({ cls := "UnitKitchens$Kitchen", name := "enoughFor", desc := "(I)I" } : Jvm.MethodName)) ∈ xT := xT_in 599 (by decide +kernel) rfl
theorem tw_600 : (Jvm.Cond.instanceMethod ({ cls := "UnitKitchens$Kitchen", name := "enoughFor", desc := "(I)I" } : Jvm.MethodName)) ∈ xT := xT_in 600 (by decide +kernel) rfl
theorem tw_601 : (Jvm.Cond.selects "UnitKitchens$Kitchen" ({ cls := "UnitKitchens$Kitchen", name := "enoughFor", desc := "(I)I" } : Jvm.MethodName) ({ cls := "UnitKitchens$Kitchen", name := "enoughFor", desc := "(I)I" } : Jvm.MethodName)) ∈ xT := xT_in 601 (by decide +kernel) rfl
theorem tw_602 : (Jvm.Cond.code ({ cls := "UnitKitchens$Kitchen", name := "enoughFor", desc := "(I)I" } : Jvm.MethodName) prog_3_method_3_code (5 : Nat) (Option.some Jvm.ClassFile.FieldType.int)) ∈ xT := xT_in 602 (by decide +kernel) rfl
theorem tw_605 : (Jvm.Cond.methodLink "UnitKitchens$Kitchen" (51 : Nat) ({ cls := "java/lang/Math", name := "min", desc := "(II)I" } : Jvm.MethodName)) ∈ xT := xT_in 605 (by decide +kernel) rfl
theorem tw_606 : (Jvm.Cond.static ({ cls := "java/lang/Math", name := "min", desc := "(II)I" } : Jvm.MethodName)) ∈ xT := xT_in 606 (by decide +kernel) rfl
theorem tw_607 : (Jvm.Cond.code ({ cls := "java/lang/Math", name := "min", desc := "(II)I" } : Jvm.MethodName) prog_17_method_69_code (2 : Nat) (Option.some Jvm.ClassFile.FieldType.int)) ∈ xT := xT_in 607 (by decide +kernel) rfl
theorem tw_608 : (Jvm.Cond.methodLink "UnitKitchens" (315 : Nat) ({ cls := "UnitKitchens", name := "hashLorries", desc := "(J)J" } : Jvm.MethodName)) ∈ xT := xT_in 608 (by decide +kernel) rfl
theorem tw_610 : (Jvm.Cond.instanceMethod ({ cls := "UnitKitchens", name := "hashLorries", desc := "(J)J" } : Jvm.MethodName)) ∈ xT := xT_in 610 (by decide +kernel) rfl
theorem tw_611 : (Jvm.Cond.code ({ cls := "UnitKitchens", name := "hashLorries", desc := "(J)J" } : Jvm.MethodName) prog_1_method_47_code (7 : Nat) (Option.some Jvm.ClassFile.FieldType.long)) ∈ xT := xT_in 611 (by decide +kernel) rfl
theorem tw_612 : (Jvm.Cond.methodLink "UnitKitchens" (382 : Nat) ({ cls := "UnitKitchens", name := "lorry", desc := "(II)I" } : Jvm.MethodName)) ∈ xT := xT_in 612 (by decide +kernel) rfl
theorem tw_613 : (Jvm.Cond.instanceMethod ({ cls := "UnitKitchens", name := "lorry", desc := "(II)I" } : Jvm.MethodName)) ∈ xT := xT_in 613 (by decide +kernel) rfl
theorem tw_614 : (Jvm.Cond.selects "UnitKitchens" ({ cls := "UnitKitchens", name := "lorry", desc := "(II)I" } : Jvm.MethodName) ({ cls := "UnitKitchens", name := "lorry", desc := "(II)I" } : Jvm.MethodName)) ∈ xT := xT_in 614 (by decide +kernel) rfl
theorem tw_615 : (Jvm.Cond.code ({ cls := "UnitKitchens", name := "lorry", desc := "(II)I" } : Jvm.MethodName) prog_1_method_25_code (3 : Nat) (Option.some Jvm.ClassFile.FieldType.int)) ∈ xT := xT_in 615 (by decide +kernel) rfl
theorem tw_616 : (Jvm.Cond.methodLink "UnitKitchens" (255 : Nat) ({ cls := "UnitKitchens$Lorry", name := "property", desc := "(II)I" } : Jvm.MethodName)) ∈ xT := xT_in 616 (by decide +kernel) rfl
theorem tw_617 : (Jvm.Cond.instanceMethod ({ cls := "UnitKitchens$Lorry", name := "property", desc := "(II)I" } : Jvm.MethodName)) ∈ xT := xT_in 617 (by decide +kernel) rfl
theorem tw_618 : (Jvm.Cond.selects "UnitKitchens$Lorry" ({ cls := "UnitKitchens$Lorry", name := "property", desc := "(II)I" } : Jvm.MethodName) ({ cls := "UnitKitchens$Lorry", name := "property", desc := "(II)I" } : Jvm.MethodName)) ∈ xT := xT_in 618 (by decide +kernel) rfl
theorem tw_619 : (Jvm.Cond.code ({ cls := "UnitKitchens$Lorry", name := "property", desc := "(II)I" } : Jvm.MethodName) prog_4_method_4_code (3 : Nat) (Option.some Jvm.ClassFile.FieldType.int)) ∈ xT := xT_in 619 (by decide +kernel) rfl
theorem tw_620 : (Jvm.Cond.methodLink "UnitKitchens$Lorry" (42 : Nat) ({ cls := "UnitKitchens$Meals", name := "oldest", desc := "(I)I" } : Jvm.MethodName)) ∈ xT := xT_in 620 (by decide +kernel) rfl
theorem tw_621 : (Jvm.Cond.methodLink "UnitKitchens" (282 : Nat) ({ cls := "UnitKitchens", name := "lookAhead", desc := "(I)V" } : Jvm.MethodName)) ∈ xT := xT_in 621 (by decide +kernel) rfl
theorem tw_623 : (Jvm.Cond.instanceMethod ({ cls := "UnitKitchens", name := "lookAhead", desc := "(I)V" } : Jvm.MethodName)) ∈ xT := xT_in 623 (by decide +kernel) rfl
theorem tw_624 : (Jvm.Cond.code ({ cls := "UnitKitchens", name := "lookAhead", desc := "(I)V" } : Jvm.MethodName) prog_1_method_41_code (3 : Nat) (Option.none : Option Jvm.ClassFile.FieldType)) ∈ xT := xT_in 624 (by decide +kernel) rfl
theorem tw_625 : (Jvm.Cond.methodLink "UnitKitchens" (353 : Nat) ({ cls := "UnitKitchens$Film", name := "copyFrom", desc := "(LUnitKitchens$Film;)V" } : Jvm.MethodName)) ∈ xT := xT_in 625 (by decide +kernel) rfl
theorem tw_626 : (Jvm.Cond.instanceMethod ({ cls := "UnitKitchens$Film", name := "copyFrom", desc := "(LUnitKitchens$Film;)V" } : Jvm.MethodName)) ∈ xT := xT_in 626 (by decide +kernel) rfl
theorem tw_627 : (Jvm.Cond.selects "UnitKitchens$Film" ({ cls := "UnitKitchens$Film", name := "copyFrom", desc := "(LUnitKitchens$Film;)V" } : Jvm.MethodName) ({ cls := "UnitKitchens$Film", name := "copyFrom", desc := "(LUnitKitchens$Film;)V" } : Jvm.MethodName)) ∈ xT := xT_in 627 (by decide +kernel) rfl
theorem tw_628 : (Jvm.Cond.code ({ cls := "UnitKitchens$Film", name := "copyFrom", desc := "(LUnitKitchens$Film;)V" } : Jvm.MethodName) prog_2_method_2_code (3 : Nat) (Option.none : Option Jvm.ClassFile.FieldType)) ∈ xT := xT_in 628 (by decide +kernel) rfl
theorem tw_629 : (Jvm.Cond.methodLink "UnitKitchens$Film" (69 : Nat) ({ cls := "java/lang/System", name := "arraycopy", desc := "(Ljava/lang/Object;ILjava/lang/Object;II)V" } : Jvm.MethodName)) ∈ xT := xT_in 629 (by decide +kernel) rfl
theorem tw_630 : (Jvm.Cond.static ({ cls := "java/lang/System", name := "arraycopy", desc := "(Ljava/lang/Object;ILjava/lang/Object;II)V" } : Jvm.MethodName)) ∈ xT := xT_in 630 (by decide +kernel) rfl
theorem tw_631 : (Jvm.Cond.native ({ cls := "java/lang/System", name := "arraycopy", desc := "(Ljava/lang/Object;ILjava/lang/Object;II)V" } : Jvm.MethodName)) ∈ xT := xT_in 631 (by decide +kernel) rfl
theorem tw_632 : (Jvm.Cond.methodLink "UnitKitchens$Film" (75 : Nat) ({ cls := "UnitKitchens$Kitchen", name := "copyFrom", desc := "(LUnitKitchens$Kitchen;)V" } : Jvm.MethodName)) ∈ xT := xT_in 632 (by decide +kernel) rfl
theorem tw_633 : (Jvm.Cond.instanceMethod ({ cls := "UnitKitchens$Kitchen", name := "copyFrom", desc := "(LUnitKitchens$Kitchen;)V" } : Jvm.MethodName)) ∈ xT := xT_in 633 (by decide +kernel) rfl
theorem tw_634 : (Jvm.Cond.selects "UnitKitchens$Kitchen" ({ cls := "UnitKitchens$Kitchen", name := "copyFrom", desc := "(LUnitKitchens$Kitchen;)V" } : Jvm.MethodName) ({ cls := "UnitKitchens$Kitchen", name := "copyFrom", desc := "(LUnitKitchens$Kitchen;)V" } : Jvm.MethodName)) ∈ xT := xT_in 634 (by decide +kernel) rfl
theorem tw_635 : (Jvm.Cond.code ({ cls := "UnitKitchens$Kitchen", name := "copyFrom", desc := "(LUnitKitchens$Kitchen;)V" } : Jvm.MethodName) prog_3_method_2_code (2 : Nat) (Option.none : Option Jvm.ClassFile.FieldType)) ∈ xT := xT_in 635 (by decide +kernel) rfl
theorem tw_636 : (Jvm.Cond.methodLink "UnitKitchens$Kitchen" (29 : Nat) ({ cls := "java/lang/System", name := "arraycopy", desc := "(Ljava/lang/Object;ILjava/lang/Object;II)V" } : Jvm.MethodName)) ∈ xT := xT_in 636 (by decide +kernel) rfl
theorem tw_637 : (Jvm.Cond.methodLink "UnitKitchens$Kitchen" (38 : Nat) ({ cls := "UnitKitchens$Meals", name := "copyFrom", desc := "(LUnitKitchens$Meals;)V" } : Jvm.MethodName)) ∈ xT := xT_in 637 (by decide +kernel) rfl
theorem tw_638 : (Jvm.Cond.instanceMethod ({ cls := "UnitKitchens$Meals", name := "copyFrom", desc := "(LUnitKitchens$Meals;)V" } : Jvm.MethodName)) ∈ xT := xT_in 638 (by decide +kernel) rfl
theorem tw_639 : (Jvm.Cond.selects "UnitKitchens$Meals" ({ cls := "UnitKitchens$Meals", name := "copyFrom", desc := "(LUnitKitchens$Meals;)V" } : Jvm.MethodName) ({ cls := "UnitKitchens$Meals", name := "copyFrom", desc := "(LUnitKitchens$Meals;)V" } : Jvm.MethodName)) ∈ xT := xT_in 639 (by decide +kernel) rfl
theorem tw_640 : (Jvm.Cond.code ({ cls := "UnitKitchens$Meals", name := "copyFrom", desc := "(LUnitKitchens$Meals;)V" } : Jvm.MethodName) prog_5_method_2_code (2 : Nat) (Option.none : Option Jvm.ClassFile.FieldType)) ∈ xT := xT_in 640 (by decide +kernel) rfl
theorem tw_641 : (Jvm.Cond.methodLink "UnitKitchens$Meals" (18 : Nat) ({ cls := "java/lang/System", name := "arraycopy", desc := "(Ljava/lang/Object;ILjava/lang/Object;II)V" } : Jvm.MethodName)) ∈ xT := xT_in 641 (by decide +kernel) rfl
theorem tw_642 : (Jvm.Cond.methodLink "UnitKitchens$Film" (79 : Nat) ({ cls := "UnitKitchens$Lorry", name := "copyFrom", desc := "(LUnitKitchens$Lorry;)V" } : Jvm.MethodName)) ∈ xT := xT_in 642 (by decide +kernel) rfl
theorem tw_643 : (Jvm.Cond.instanceMethod ({ cls := "UnitKitchens$Lorry", name := "copyFrom", desc := "(LUnitKitchens$Lorry;)V" } : Jvm.MethodName)) ∈ xT := xT_in 643 (by decide +kernel) rfl
theorem tw_644 : (Jvm.Cond.selects "UnitKitchens$Lorry" ({ cls := "UnitKitchens$Lorry", name := "copyFrom", desc := "(LUnitKitchens$Lorry;)V" } : Jvm.MethodName) ({ cls := "UnitKitchens$Lorry", name := "copyFrom", desc := "(LUnitKitchens$Lorry;)V" } : Jvm.MethodName)) ∈ xT := xT_in 644 (by decide +kernel) rfl
theorem tw_645 : (Jvm.Cond.code ({ cls := "UnitKitchens$Lorry", name := "copyFrom", desc := "(LUnitKitchens$Lorry;)V" } : Jvm.MethodName) prog_4_method_2_code (2 : Nat) (Option.none : Option Jvm.ClassFile.FieldType)) ∈ xT := xT_in 645 (by decide +kernel) rfl
theorem tw_646 : (Jvm.Cond.methodLink "UnitKitchens$Lorry" (28 : Nat) ({ cls := "UnitKitchens$Meals", name := "copyFrom", desc := "(LUnitKitchens$Meals;)V" } : Jvm.MethodName)) ∈ xT := xT_in 646 (by decide +kernel) rfl
theorem tw_647 : (Jvm.Cond.methodLink "UnitKitchens$Film" (82 : Nat) ({ cls := "UnitKitchens$Unit", name := "copyFrom", desc := "(LUnitKitchens$Unit;)V" } : Jvm.MethodName)) ∈ xT := xT_in 647 (by decide +kernel) rfl
theorem tw_648 : (Jvm.Cond.instanceMethod ({ cls := "UnitKitchens$Unit", name := "copyFrom", desc := "(LUnitKitchens$Unit;)V" } : Jvm.MethodName)) ∈ xT := xT_in 648 (by decide +kernel) rfl
theorem tw_649 : (Jvm.Cond.selects "UnitKitchens$Unit" ({ cls := "UnitKitchens$Unit", name := "copyFrom", desc := "(LUnitKitchens$Unit;)V" } : Jvm.MethodName) ({ cls := "UnitKitchens$Unit", name := "copyFrom", desc := "(LUnitKitchens$Unit;)V" } : Jvm.MethodName)) ∈ xT := xT_in 649 (by decide +kernel) rfl
theorem tw_650 : (Jvm.Cond.code ({ cls := "UnitKitchens$Unit", name := "copyFrom", desc := "(LUnitKitchens$Unit;)V" } : Jvm.MethodName) prog_8_method_2_code (2 : Nat) (Option.none : Option Jvm.ClassFile.FieldType)) ∈ xT := xT_in 650 (by decide +kernel) rfl
theorem tw_651 : (Jvm.Cond.methodLink "UnitKitchens" (201 : Nat) ({ cls := "UnitKitchens$Film", name := "passMinute", desc := "()V" } : Jvm.MethodName)) ∈ xT := xT_in 651 (by decide +kernel) rfl
theorem tw_652 : (Jvm.Cond.instanceMethod ({ cls := "UnitKitchens$Film", name := "passMinute", desc := "()V" } : Jvm.MethodName)) ∈ xT := xT_in 652 (by decide +kernel) rfl
theorem tw_653 : (Jvm.Cond.selects "UnitKitchens$Film" ({ cls := "UnitKitchens$Film", name := "passMinute", desc := "()V" } : Jvm.MethodName) ({ cls := "UnitKitchens$Film", name := "passMinute", desc := "()V" } : Jvm.MethodName)) ∈ xT := xT_in 653 (by decide +kernel) rfl
theorem tw_654 : (Jvm.Cond.code ({ cls := "UnitKitchens$Film", name := "passMinute", desc := "()V" } : Jvm.MethodName) prog_2_method_7_code (1 : Nat) (Option.none : Option Jvm.ClassFile.FieldType)) ∈ xT := xT_in 654 (by decide +kernel) rfl
theorem tw_655 : (Jvm.Cond.methodLink "UnitKitchens$Film" (102 : Nat) ({ cls := "UnitKitchens$Film", name := "driveLorries", desc := "()V" } : Jvm.MethodName)) ∈ xT := xT_in 655 (by decide +kernel) rfl
theorem tw_656 : (Jvm.Cond.instanceMethod ({ cls := "UnitKitchens$Film", name := "driveLorries", desc := "()V" } : Jvm.MethodName)) ∈ xT := xT_in 656 (by decide +kernel) rfl
theorem tw_657 : (Jvm.Cond.selects "UnitKitchens$Film" ({ cls := "UnitKitchens$Film", name := "driveLorries", desc := "()V" } : Jvm.MethodName) ({ cls := "UnitKitchens$Film", name := "driveLorries", desc := "()V" } : Jvm.MethodName)) ∈ xT := xT_in 657 (by decide +kernel) rfl
theorem tw_658 : (Jvm.Cond.code ({ cls := "UnitKitchens$Film", name := "driveLorries", desc := "()V" } : Jvm.MethodName) prog_2_method_8_code (2 : Nat) (Option.none : Option Jvm.ClassFile.FieldType)) ∈ xT := xT_in 658 (by decide +kernel) rfl
theorem tw_659 : (Jvm.Cond.methodLink "UnitKitchens$Film" (120 : Nat) ({ cls := "UnitKitchens$Lorry", name := "driveMinute", desc := "()V" } : Jvm.MethodName)) ∈ xT := xT_in 659 (by decide +kernel) rfl
theorem tw_660 : (Jvm.Cond.instanceMethod ({ cls := "UnitKitchens$Lorry", name := "driveMinute", desc := "()V" } : Jvm.MethodName)) ∈ xT := xT_in 660 (by decide +kernel) rfl
theorem tw_661 : (Jvm.Cond.selects "UnitKitchens$Lorry" ({ cls := "UnitKitchens$Lorry", name := "driveMinute", desc := "()V" } : Jvm.MethodName) ({ cls := "UnitKitchens$Lorry", name := "driveMinute", desc := "()V" } : Jvm.MethodName)) ∈ xT := xT_in 661 (by decide +kernel) rfl
theorem tw_662 : (Jvm.Cond.code ({ cls := "UnitKitchens$Lorry", name := "driveMinute", desc := "()V" } : Jvm.MethodName) prog_4_method_3_code (1 : Nat) (Option.none : Option Jvm.ClassFile.FieldType)) ∈ xT := xT_in 662 (by decide +kernel) rfl
theorem tw_663 : (Jvm.Cond.methodLink "UnitKitchens$Film" (105 : Nat) ({ cls := "UnitKitchens$Film", name := "cookPots", desc := "()V" } : Jvm.MethodName)) ∈ xT := xT_in 663 (by decide +kernel) rfl
theorem tw_664 : (Jvm.Cond.instanceMethod ({ cls := "UnitKitchens$Film", name := "cookPots", desc := "()V" } : Jvm.MethodName)) ∈ xT := xT_in 664 (by decide +kernel) rfl
theorem tw_665 : (Jvm.Cond.selects "UnitKitchens$Film" ({ cls := "UnitKitchens$Film", name := "cookPots", desc := "()V" } : Jvm.MethodName) ({ cls := "UnitKitchens$Film", name := "cookPots", desc := "()V" } : Jvm.MethodName)) ∈ xT := xT_in 665 (by decide +kernel) rfl
theorem tw_666 : (Jvm.Cond.code ({ cls := "UnitKitchens$Film", name := "cookPots", desc := "()V" } : Jvm.MethodName) prog_2_method_9_code (2 : Nat) (Option.none : Option Jvm.ClassFile.FieldType)) ∈ xT := xT_in 666 (by decide +kernel) rfl
theorem tw_667 : (Jvm.Cond.methodLink "UnitKitchens$Film" (123 : Nat) ({ cls := "UnitKitchens$Kitchen", name := "cookMinute", desc := "(II)V" } : Jvm.MethodName)) ∈ xT := xT_in 667 (by decide +kernel) rfl
theorem tw_668 : (Jvm.Cond.instanceMethod ({ cls := "UnitKitchens$Kitchen", name := "cookMinute", desc := "(II)V" } : Jvm.MethodName)) ∈ xT := xT_in 668 (by decide +kernel) rfl
theorem tw_669 : (Jvm.Cond.selects "UnitKitchens$Kitchen" ({ cls := "UnitKitchens$Kitchen", name := "cookMinute", desc := "(II)V" } : Jvm.MethodName) ({ cls := "UnitKitchens$Kitchen", name := "cookMinute", desc := "(II)V" } : Jvm.MethodName)) ∈ xT := xT_in 669 (by decide +kernel) rfl
theorem tw_670 : (Jvm.Cond.code ({ cls := "UnitKitchens$Kitchen", name := "cookMinute", desc := "(II)V" } : Jvm.MethodName) prog_3_method_5_code (4 : Nat) (Option.none : Option Jvm.ClassFile.FieldType)) ∈ xT := xT_in 670 (by decide +kernel) rfl
theorem tw_671 : (Jvm.Cond.methodLink "UnitKitchens$Kitchen" (57 : Nat) ({ cls := "UnitKitchens$Meals", name := "put", desc := "(III)V" } : Jvm.MethodName)) ∈ xT := xT_in 671 (by decide +kernel) rfl
theorem tw_672 : (Jvm.Cond.instanceMethod ({ cls := "UnitKitchens$Meals", name := "put", desc := "(III)V" } : Jvm.MethodName)) ∈ xT := xT_in 672 (by decide +kernel) rfl
theorem tw_673 : (Jvm.Cond.selects "UnitKitchens$Meals" ({ cls := "UnitKitchens$Meals", name := "put", desc := "(III)V" } : Jvm.MethodName) ({ cls := "UnitKitchens$Meals", name := "put", desc := "(III)V" } : Jvm.MethodName)) ∈ xT := xT_in 673 (by decide +kernel) rfl
theorem tw_674 : (Jvm.Cond.code ({ cls := "UnitKitchens$Meals", name := "put", desc := "(III)V" } : Jvm.MethodName) prog_5_method_7_code (4 : Nat) (Option.none : Option Jvm.ClassFile.FieldType)) ∈ xT := xT_in 674 (by decide +kernel) rfl
theorem tw_675 : (Jvm.Cond.methodLink "UnitKitchens$Film" (108 : Nat) ({ cls := "UnitKitchens$Film", name := "throwOldMeals", desc := "()V" } : Jvm.MethodName)) ∈ xT := xT_in 675 (by decide +kernel) rfl
theorem tw_676 : (Jvm.Cond.instanceMethod ({ cls := "UnitKitchens$Film", name := "throwOldMeals", desc := "()V" } : Jvm.MethodName)) ∈ xT := xT_in 676 (by decide +kernel) rfl
theorem tw_677 : (Jvm.Cond.selects "UnitKitchens$Film" ({ cls := "UnitKitchens$Film", name := "throwOldMeals", desc := "()V" } : Jvm.MethodName) ({ cls := "UnitKitchens$Film", name := "throwOldMeals", desc := "()V" } : Jvm.MethodName)) ∈ xT := xT_in 677 (by decide +kernel) rfl
theorem tw_678 : (Jvm.Cond.code ({ cls := "UnitKitchens$Film", name := "throwOldMeals", desc := "()V" } : Jvm.MethodName) prog_2_method_10_code (2 : Nat) (Option.none : Option Jvm.ClassFile.FieldType)) ∈ xT := xT_in 678 (by decide +kernel) rfl
theorem tw_679 : (Jvm.Cond.methodLink "UnitKitchens$Film" (134 : Nat) ({ cls := "UnitKitchens$Meals", name := "throwOlder", desc := "(II)I" } : Jvm.MethodName)) ∈ xT := xT_in 679 (by decide +kernel) rfl
theorem tw_680 : (Jvm.Cond.instanceMethod ({ cls := "UnitKitchens$Meals", name := "throwOlder", desc := "(II)I" } : Jvm.MethodName)) ∈ xT := xT_in 680 (by decide +kernel) rfl
theorem tw_681 : (Jvm.Cond.selects "UnitKitchens$Meals" ({ cls := "UnitKitchens$Meals", name := "throwOlder", desc := "(II)I" } : Jvm.MethodName) ({ cls := "UnitKitchens$Meals", name := "throwOlder", desc := "(II)I" } : Jvm.MethodName)) ∈ xT := xT_in 681 (by decide +kernel) rfl
theorem tw_682 : (Jvm.Cond.code ({ cls := "UnitKitchens$Meals", name := "throwOlder", desc := "(II)I" } : Jvm.MethodName) prog_5_method_11_code (6 : Nat) (Option.some Jvm.ClassFile.FieldType.int)) ∈ xT := xT_in 682 (by decide +kernel) rfl
theorem tw_683 : (Jvm.Cond.methodLink "UnitKitchens$Meals" (50 : Nat) ({ cls := "UnitKitchens$Meals", name := "take", desc := "(III)I" } : Jvm.MethodName)) ∈ xT := xT_in 683 (by decide +kernel) rfl
theorem tw_684 : (Jvm.Cond.instanceMethod ({ cls := "UnitKitchens$Meals", name := "take", desc := "(III)I" } : Jvm.MethodName)) ∈ xT := xT_in 684 (by decide +kernel) rfl
theorem tw_685 : (Jvm.Cond.selects "UnitKitchens$Meals" ({ cls := "UnitKitchens$Meals", name := "take", desc := "(III)I" } : Jvm.MethodName) ({ cls := "UnitKitchens$Meals", name := "take", desc := "(III)I" } : Jvm.MethodName)) ∈ xT := xT_in 685 (by decide +kernel) rfl
theorem tw_686 : (Jvm.Cond.code ({ cls := "UnitKitchens$Meals", name := "take", desc := "(III)I" } : Jvm.MethodName) prog_5_method_8_code (6 : Nat) (Option.some Jvm.ClassFile.FieldType.int)) ∈ xT := xT_in 686 (by decide +kernel) rfl
theorem tw_687 : (Jvm.Cond.methodLink "UnitKitchens$Meals" (45 : Nat) ({ cls := "java/lang/Math", name := "min", desc := "(II)I" } : Jvm.MethodName)) ∈ xT := xT_in 687 (by decide +kernel) rfl
theorem tw_688 : (Jvm.Cond.methodLink "UnitKitchens$Film" (111 : Nat) ({ cls := "UnitKitchens$Film", name := "callUnits", desc := "()V" } : Jvm.MethodName)) ∈ xT := xT_in 688 (by decide +kernel) rfl
theorem tw_689 : (Jvm.Cond.instanceMethod ({ cls := "UnitKitchens$Film", name := "callUnits", desc := "()V" } : Jvm.MethodName)) ∈ xT := xT_in 689 (by decide +kernel) rfl
theorem tw_690 : (Jvm.Cond.selects "UnitKitchens$Film" ({ cls := "UnitKitchens$Film", name := "callUnits", desc := "()V" } : Jvm.MethodName) ({ cls := "UnitKitchens$Film", name := "callUnits", desc := "()V" } : Jvm.MethodName)) ∈ xT := xT_in 690 (by decide +kernel) rfl
theorem tw_691 : (Jvm.Cond.code ({ cls := "UnitKitchens$Film", name := "callUnits", desc := "()V" } : Jvm.MethodName) prog_2_method_11_code (3 : Nat) (Option.none : Option Jvm.ClassFile.FieldType)) ∈ xT := xT_in 691 (by decide +kernel) rfl
theorem tw_692 : (Jvm.Cond.methodLink "UnitKitchens$Film" (145 : Nat) ({ cls := "UnitKitchens$Unit", name := "callToEat", desc := "(I)V" } : Jvm.MethodName)) ∈ xT := xT_in 692 (by decide +kernel) rfl
theorem tw_693 : (Jvm.Cond.instanceMethod ({ cls := "UnitKitchens$Unit", name := "callToEat", desc := "(I)V" } : Jvm.MethodName)) ∈ xT := xT_in 693 (by decide +kernel) rfl
theorem tw_694 : (Jvm.Cond.selects "UnitKitchens$Unit" ({ cls := "UnitKitchens$Unit", name := "callToEat", desc := "(I)V" } : Jvm.MethodName) ({ cls := "UnitKitchens$Unit", name := "callToEat", desc := "(I)V" } : Jvm.MethodName)) ∈ xT := xT_in 694 (by decide +kernel) rfl
theorem tw_695 : (Jvm.Cond.code ({ cls := "UnitKitchens$Unit", name := "callToEat", desc := "(I)V" } : Jvm.MethodName) prog_8_method_5_code (2 : Nat) (Option.none : Option Jvm.ClassFile.FieldType)) ∈ xT := xT_in 695 (by decide +kernel) rfl
theorem tw_696 : (Jvm.Cond.methodLink "UnitKitchens$Film" (114 : Nat) ({ cls := "UnitKitchens$Film", name := "serveUnits", desc := "()V" } : Jvm.MethodName)) ∈ xT := xT_in 696 (by decide +kernel) rfl
theorem tw_697 : (Jvm.Cond.instanceMethod ({ cls := "UnitKitchens$Film", name := "serveUnits", desc := "()V" } : Jvm.MethodName)) ∈ xT := xT_in 697 (by decide +kernel) rfl
theorem tw_698 : (Jvm.Cond.selects "UnitKitchens$Film" ({ cls := "UnitKitchens$Film", name := "serveUnits", desc := "()V" } : Jvm.MethodName) ({ cls := "UnitKitchens$Film", name := "serveUnits", desc := "()V" } : Jvm.MethodName)) ∈ xT := xT_in 698 (by decide +kernel) rfl
theorem tw_699 : (Jvm.Cond.code ({ cls := "UnitKitchens$Film", name := "serveUnits", desc := "()V" } : Jvm.MethodName) prog_2_method_12_code (3 : Nat) (Option.none : Option Jvm.ClassFile.FieldType)) ∈ xT := xT_in 699 (by decide +kernel) rfl
theorem tw_700 : (Jvm.Cond.methodLink "UnitKitchens$Film" (156 : Nat) ({ cls := "UnitKitchens$Film", name := "takeMeals", desc := "(IZI)I" } : Jvm.MethodName)) ∈ xT := xT_in 700 (by decide +kernel) rfl
theorem tw_701 : (Jvm.Cond.instanceMethod ({ cls := "UnitKitchens$Film", name := "takeMeals", desc := "(IZI)I" } : Jvm.MethodName)) ∈ xT := xT_in 701 (by decide +kernel) rfl
theorem tw_702 : (Jvm.Cond.selects "UnitKitchens$Film" ({ cls := "UnitKitchens$Film", name := "takeMeals", desc := "(IZI)I" } : Jvm.MethodName) ({ cls := "UnitKitchens$Film", name := "takeMeals", desc := "(IZI)I" } : Jvm.MethodName)) ∈ xT := xT_in 702 (by decide +kernel) rfl
theorem tw_703 : (Jvm.Cond.code ({ cls := "UnitKitchens$Film", name := "takeMeals", desc := "(IZI)I" } : Jvm.MethodName) prog_2_method_13_code (7 : Nat) (Option.some Jvm.ClassFile.FieldType.int)) ∈ xT := xT_in 703 (by decide +kernel) rfl
theorem tw_704 : (Jvm.Cond.methodLink "UnitKitchens$Film" (169 : Nat) ({ cls := "UnitKitchens$Meals", name := "takeFirst", desc := "(ZII)I" } : Jvm.MethodName)) ∈ xT := xT_in 704 (by decide +kernel) rfl
theorem tw_705 : (Jvm.Cond.instanceMethod ({ cls := "UnitKitchens$Meals", name := "takeFirst", desc := "(ZII)I" } : Jvm.MethodName)) ∈ xT := xT_in 705 (by decide +kernel) rfl
theorem tw_706 : (Jvm.Cond.selects "UnitKitchens$Meals" ({ cls := "UnitKitchens$Meals", name := "takeFirst", desc := "(ZII)I" } : Jvm.MethodName) ({ cls := "UnitKitchens$Meals", name := "takeFirst", desc := "(ZII)I" } : Jvm.MethodName)) ∈ xT := xT_in 706 (by decide +kernel) rfl
theorem tw_707 : (Jvm.Cond.code ({ cls := "UnitKitchens$Meals", name := "takeFirst", desc := "(ZII)I" } : Jvm.MethodName) prog_5_method_9_code (8 : Nat) (Option.some Jvm.ClassFile.FieldType.int)) ∈ xT := xT_in 707 (by decide +kernel) rfl
theorem tw_708 : (Jvm.Cond.methodLink "UnitKitchens$Film" (160 : Nat) ({ cls := "UnitKitchens$Unit", name := "serveGreens", desc := "(I)V" } : Jvm.MethodName)) ∈ xT := xT_in 708 (by decide +kernel) rfl
theorem tw_709 : (Jvm.Cond.instanceMethod ({ cls := "UnitKitchens$Unit", name := "serveGreens", desc := "(I)V" } : Jvm.MethodName)) ∈ xT := xT_in 709 (by decide +kernel) rfl
theorem tw_710 : (Jvm.Cond.selects "UnitKitchens$Unit" ({ cls := "UnitKitchens$Unit", name := "serveGreens", desc := "(I)V" } : Jvm.MethodName) ({ cls := "UnitKitchens$Unit", name := "serveGreens", desc := "(I)V" } : Jvm.MethodName)) ∈ xT := xT_in 710 (by decide +kernel) rfl
theorem tw_711 : (Jvm.Cond.code ({ cls := "UnitKitchens$Unit", name := "serveGreens", desc := "(I)V" } : Jvm.MethodName) prog_8_method_6_code (2 : Nat) (Option.none : Option Jvm.ClassFile.FieldType)) ∈ xT := xT_in 711 (by decide +kernel) rfl
theorem tw_712 : (Jvm.Cond.methodLink "UnitKitchens$Unit" (48 : Nat) ({ cls := "UnitKitchens$Unit", name := "noteServed", desc := "(I)V" } : Jvm.MethodName)) ∈ xT := xT_in 712 (by decide +kernel) rfl
theorem tw_713 : (Jvm.Cond.instanceMethod ({ cls := "UnitKitchens$Unit", name := "noteServed", desc := "(I)V" } : Jvm.MethodName)) ∈ xT := xT_in 713 (by decide +kernel) rfl
theorem tw_714 : (Jvm.Cond.selects "UnitKitchens$Unit" ({ cls := "UnitKitchens$Unit", name := "noteServed", desc := "(I)V" } : Jvm.MethodName) ({ cls := "UnitKitchens$Unit", name := "noteServed", desc := "(I)V" } : Jvm.MethodName)) ∈ xT := xT_in 714 (by decide +kernel) rfl
theorem tw_715 : (Jvm.Cond.code ({ cls := "UnitKitchens$Unit", name := "noteServed", desc := "(I)V" } : Jvm.MethodName) prog_8_method_8_code (2 : Nat) (Option.none : Option Jvm.ClassFile.FieldType)) ∈ xT := xT_in 715 (by decide +kernel) rfl
theorem tw_716 : (Jvm.Cond.methodLink "UnitKitchens$Unit" (52 : Nat) ({ cls := "UnitKitchens$Unit", name := "owed", desc := "()I" } : Jvm.MethodName)) ∈ xT := xT_in 716 (by decide +kernel) rfl
theorem tw_717 : (Jvm.Cond.methodLink "UnitKitchens$Film" (166 : Nat) ({ cls := "UnitKitchens$Unit", name := "serveOthers", desc := "(I)V" } : Jvm.MethodName)) ∈ xT := xT_in 717 (by decide +kernel) rfl
theorem tw_718 : (Jvm.Cond.instanceMethod ({ cls := "UnitKitchens$Unit", name := "serveOthers", desc := "(I)V" } : Jvm.MethodName)) ∈ xT := xT_in 718 (by decide +kernel) rfl
theorem tw_719 : (Jvm.Cond.selects "UnitKitchens$Unit" ({ cls := "UnitKitchens$Unit", name := "serveOthers", desc := "(I)V" } : Jvm.MethodName) ({ cls := "UnitKitchens$Unit", name := "serveOthers", desc := "(I)V" } : Jvm.MethodName)) ∈ xT := xT_in 719 (by decide +kernel) rfl
theorem tw_720 : (Jvm.Cond.code ({ cls := "UnitKitchens$Unit", name := "serveOthers", desc := "(I)V" } : Jvm.MethodName) prog_8_method_7_code (2 : Nat) (Option.none : Option Jvm.ClassFile.FieldType)) ∈ xT := xT_in 720 (by decide +kernel) rfl
theorem tw_721 : (Jvm.Cond.methodLink "UnitKitchens$Film" (117 : Nat) ({ cls := "UnitKitchens$Film", name := "punish", desc := "()V" } : Jvm.MethodName)) ∈ xT := xT_in 721 (by decide +kernel) rfl
theorem tw_722 : (Jvm.Cond.instanceMethod ({ cls := "UnitKitchens$Film", name := "punish", desc := "()V" } : Jvm.MethodName)) ∈ xT := xT_in 722 (by decide +kernel) rfl
theorem tw_723 : (Jvm.Cond.selects "UnitKitchens$Film" ({ cls := "UnitKitchens$Film", name := "punish", desc := "()V" } : Jvm.MethodName) ({ cls := "UnitKitchens$Film", name := "punish", desc := "()V" } : Jvm.MethodName)) ∈ xT := xT_in 723 (by decide +kernel) rfl
theorem tw_724 : (Jvm.Cond.code ({ cls := "UnitKitchens$Film", name := "punish", desc := "()V" } : Jvm.MethodName) prog_2_method_14_code (3 : Nat) (Option.none : Option Jvm.ClassFile.FieldType)) ∈ xT := xT_in 724 (by decide +kernel) rfl
theorem tw_725 : (Jvm.Cond.methodLink "UnitKitchens$Film" (176 : Nat) ({ cls := "UnitKitchens$Unit", name := "waiting", desc := "(I)I" } : Jvm.MethodName)) ∈ xT := xT_in 725 (by decide +kernel) rfl
theorem tw_726 : (Jvm.Cond.instanceMethod ({ cls := "UnitKitchens$Unit", name := "waiting", desc := "(I)I" } : Jvm.MethodName)) ∈ xT := xT_in 726 (by decide +kernel) rfl
theorem tw_727 : (Jvm.Cond.selects "UnitKitchens$Unit" ({ cls := "UnitKitchens$Unit", name := "waiting", desc := "(I)I" } : Jvm.MethodName) ({ cls := "UnitKitchens$Unit", name := "waiting", desc := "(I)I" } : Jvm.MethodName)) ∈ xT := xT_in 727 (by decide +kernel) rfl
theorem tw_728 : (Jvm.Cond.code ({ cls := "UnitKitchens$Unit", name := "waiting", desc := "(I)I" } : Jvm.MethodName) prog_8_method_4_code (2 : Nat) (Option.some Jvm.ClassFile.FieldType.int)) ∈ xT := xT_in 728 (by decide +kernel) rfl
theorem tw_729 : (Jvm.Cond.constant "UnitKitchens$Film" (180 : Nat) (100000000 : Int32)) ∈ xT := xT_in 729 (by decide +kernel) rfl
theorem tw_730 : (Jvm.Cond.methodLink "UnitKitchens$Film" (184 : Nat) ({ cls := "java/lang/Math", name := "min", desc := "(II)I" } : Jvm.MethodName)) ∈ xT := xT_in 730 (by decide +kernel) rfl
theorem tw_731 : (Jvm.Cond.methodLink "UnitKitchens" (285 : Nat) ({ cls := "UnitKitchens", name := "forecast", desc := "(I)I" } : Jvm.MethodName)) ∈ xT := xT_in 731 (by decide +kernel) rfl
theorem tw_733 : (Jvm.Cond.instanceMethod ({ cls := "UnitKitchens", name := "forecast", desc := "(I)I" } : Jvm.MethodName)) ∈ xT := xT_in 733 (by decide +kernel) rfl
theorem tw_734 : (Jvm.Cond.code ({ cls := "UnitKitchens", name := "forecast", desc := "(I)I" } : Jvm.MethodName) prog_1_method_42_code (2 : Nat) (Option.some Jvm.ClassFile.FieldType.int)) ∈ xT := xT_in 734 (by decide +kernel) rfl
theorem tw_735 : (Jvm.Cond.methodLink "UnitKitchens" (318 : Nat) ({ cls := "UnitKitchens", name := "callsIn", desc := "(II)I" } : Jvm.MethodName)) ∈ xT := xT_in 735 (by decide +kernel) rfl
theorem tw_736 : (Jvm.Cond.instanceMethod ({ cls := "UnitKitchens", name := "callsIn", desc := "(II)I" } : Jvm.MethodName)) ∈ xT := xT_in 736 (by decide +kernel) rfl
theorem tw_737 : (Jvm.Cond.selects "UnitKitchens" ({ cls := "UnitKitchens", name := "callsIn", desc := "(II)I" } : Jvm.MethodName) ({ cls := "UnitKitchens", name := "callsIn", desc := "(II)I" } : Jvm.MethodName)) ∈ xT := xT_in 737 (by decide +kernel) rfl
theorem tw_738 : (Jvm.Cond.code ({ cls := "UnitKitchens", name := "callsIn", desc := "(II)I" } : Jvm.MethodName) prog_1_method_29_code (8 : Nat) (Option.some Jvm.ClassFile.FieldType.int)) ∈ xT := xT_in 738 (by decide +kernel) rfl
theorem tw_739 : (Jvm.Cond.methodLink "UnitKitchens" (288 : Nat) ({ cls := "UnitKitchens$Unit", name := "callsUntil", desc := "(I)I" } : Jvm.MethodName)) ∈ xT := xT_in 739 (by decide +kernel) rfl
theorem tw_740 : (Jvm.Cond.instanceMethod ({ cls := "UnitKitchens$Unit", name := "callsUntil", desc := "(I)I" } : Jvm.MethodName)) ∈ xT := xT_in 740 (by decide +kernel) rfl
theorem tw_741 : (Jvm.Cond.selects "UnitKitchens$Unit" ({ cls := "UnitKitchens$Unit", name := "callsUntil", desc := "(I)I" } : Jvm.MethodName) ({ cls := "UnitKitchens$Unit", name := "callsUntil", desc := "(I)I" } : Jvm.MethodName)) ∈ xT := xT_in 741 (by decide +kernel) rfl
theorem tw_742 : (Jvm.Cond.code ({ cls := "UnitKitchens$Unit", name := "callsUntil", desc := "(I)I" } : Jvm.MethodName) prog_8_method_11_code (2 : Nat) (Option.some Jvm.ClassFile.FieldType.int)) ∈ xT := xT_in 742 (by decide +kernel) rfl
theorem tw_743 : (Jvm.Cond.methodLink "UnitKitchens" (295 : Nat) ({ cls := "UnitKitchens", name := "leastGrace", desc := "(I)I" } : Jvm.MethodName)) ∈ xT := xT_in 743 (by decide +kernel) rfl
theorem tw_745 : (Jvm.Cond.instanceMethod ({ cls := "UnitKitchens", name := "leastGrace", desc := "(I)I" } : Jvm.MethodName)) ∈ xT := xT_in 745 (by decide +kernel) rfl
theorem tw_746 : (Jvm.Cond.code ({ cls := "UnitKitchens", name := "leastGrace", desc := "(I)I" } : Jvm.MethodName) prog_1_method_43_code (5 : Nat) (Option.some Jvm.ClassFile.FieldType.int)) ∈ xT := xT_in 746 (by decide +kernel) rfl
theorem tw_747 : (Jvm.Cond.constant "UnitKitchens" (359 : Nat) (100000000 : Int32)) ∈ xT := xT_in 747 (by decide +kernel) rfl
theorem tw_748 : (Jvm.Cond.methodLink "UnitKitchens" (360 : Nat) ({ cls := "UnitKitchens$Unit", name := "waiting", desc := "(I)I" } : Jvm.MethodName)) ∈ xT := xT_in 748 (by decide +kernel) rfl
theorem tw_749 : (Jvm.Cond.methodLink "UnitKitchens" (363 : Nat) ({ cls := "java/lang/Math", name := "max", desc := "(II)I" } : Jvm.MethodName)) ∈ xT := xT_in 749 (by decide +kernel) rfl
theorem tw_750 : (Jvm.Cond.methodLink "UnitKitchens" (321 : Nat) ({ cls := "UnitKitchens", name := "servedShare", desc := "()D" } : Jvm.MethodName)) ∈ xT := xT_in 750 (by decide +kernel) rfl
theorem tw_751 : (Jvm.Cond.methodLink "UnitKitchens" (325 : Nat) ({ cls := "UnitKitchens", name := "bitsOfShare", desc := "(D)J" } : Jvm.MethodName)) ∈ xT := xT_in 751 (by decide +kernel) rfl
theorem tw_752 : (Jvm.Cond.static ({ cls := "UnitKitchens", name := "bitsOfShare", desc := "(D)J" } : Jvm.MethodName)) ∈ xT := xT_in 752 (by decide +kernel) rfl
theorem tw_753 : (Jvm.Cond.code ({ cls := "UnitKitchens", name := "bitsOfShare", desc := "(D)J" } : Jvm.MethodName) prog_1_method_48_code (8 : Nat) (Option.some Jvm.ClassFile.FieldType.long)) ∈ xT := xT_in 753 (by decide +kernel) rfl
theorem tw_754 : (Jvm.Cond.constantLong "UnitKitchens" (385 : Nat) (1023 : Int64)) ∈ xT := xT_in 754 (by decide +kernel) rfl
theorem tw_755 : (Jvm.Cond.constantDouble "UnitKitchens" (387 : Nat) (4611686018427387904 : UInt64)) ∈ xT := xT_in 755 (by decide +kernel) rfl
theorem tw_756 : (Jvm.Cond.constantDouble "UnitKitchens" (389 : Nat) (4841369599423283200 : UInt64)) ∈ xT := xT_in 756 (by decide +kernel) rfl
theorem tw_757 : (Jvm.Cond.methodLink "UnitKitchensLaw" (112 : Nat) ({ cls := "UnitKitchensLaw", name := "addPlace", desc := "(LUnitKitchens;II[J)I" } : Jvm.MethodName)) ∈ xT := xT_in 757 (by decide +kernel) rfl
theorem tw_758 : (Jvm.Cond.static ({ cls := "UnitKitchensLaw", name := "addPlace", desc := "(LUnitKitchens;II[J)I" } : Jvm.MethodName)) ∈ xT := xT_in 758 (by decide +kernel) rfl
theorem tw_760 : (Jvm.Cond.classLink "UnitKitchensLaw" (13 : Nat) "java/lang/IllegalArgumentException") ∈ xT := xT_in 760 (by decide +kernel) rfl
theorem tw_761 : (Jvm.Cond.classLink "UnitKitchensLaw" (15 : Nat) "java/lang/IllegalStateException") ∈ xT := xT_in 761 (by decide +kernel) rfl
theorem tw_762 : (Jvm.Cond.methodLink "UnitKitchensLaw" (7 : Nat) ({ cls := "UnitKitchens", name := "addPlace", desc := "(II)I" } : Jvm.MethodName)) ∈ xT := xT_in 762 (by decide +kernel) rfl
theorem tw_763 : (Jvm.Cond.instanceMethod ({ cls := "UnitKitchens", name := "addPlace", desc := "(II)I" } : Jvm.MethodName)) ∈ xT := xT_in 763 (by decide +kernel) rfl
theorem tw_764 : (Jvm.Cond.selects "UnitKitchens" ({ cls := "UnitKitchens", name := "addPlace", desc := "(II)I" } : Jvm.MethodName) ({ cls := "UnitKitchens", name := "addPlace", desc := "(II)I" } : Jvm.MethodName)) ∈ xT := xT_in 764 (by decide +kernel) rfl
theorem tw_765 : (Jvm.Cond.code ({ cls := "UnitKitchens", name := "addPlace", desc := "(II)I" } : Jvm.MethodName) prog_1_method_2_code (3 : Nat) (Option.some Jvm.ClassFile.FieldType.int)) ∈ xT := xT_in 765 (by decide +kernel) rfl
theorem tw_766 : (Jvm.Cond.methodLink "UnitKitchens" (48 : Nat) ({ cls := "UnitKitchens", name := "requireState", desc := "(Z)V" } : Jvm.MethodName)) ∈ xT := xT_in 766 (by decide +kernel) rfl
theorem tw_767 : (Jvm.Cond.static ({ cls := "UnitKitchens", name := "requireState", desc := "(Z)V" } : Jvm.MethodName)) ∈ xT := xT_in 767 (by decide +kernel) rfl
theorem tw_768 : (Jvm.Cond.code ({ cls := "UnitKitchens", name := "requireState", desc := "(Z)V" } : Jvm.MethodName) prog_1_method_37_code (1 : Nat) (Option.none : Option Jvm.ClassFile.FieldType)) ∈ xT := xT_in 768 (by decide +kernel) rfl
theorem tw_769 : (Jvm.Cond.classLink "UnitKitchens" (336 : Nat) "java/lang/IllegalStateException") ∈ xT := xT_in 769 (by decide +kernel) rfl
theorem tw_770 : (Jvm.Cond.instantiable "java/lang/IllegalStateException" (6 : Nat)) ∈ xT := xT_in 770 (by decide +kernel) rfl
theorem tw_772 : (Jvm.Cond.selects "java/lang/IllegalStateException" ({ cls := "java/lang/Throwable", name := "fillInStackTrace", desc := "(I)Ljava/lang/Throwable;" } : Jvm.MethodName) ({ cls := "java/lang/Throwable", name := "fillInStackTrace", desc := "(I)Ljava/lang/Throwable;" } : Jvm.MethodName)) ∈ xT := xT_in 772 (by decide +kernel) rfl
theorem tw_773 : (Jvm.Cond.lays "java/lang/IllegalStateException" "java/lang/Throwable" "cause" "Ljava/lang/Throwable;") ∈ xT := xT_in 773 (by decide +kernel) rfl
theorem tw_774 : (Jvm.Cond.lays "java/lang/IllegalStateException" "java/lang/Throwable" "stackTrace" "[Ljava/lang/StackTraceElement;") ∈ xT := xT_in 774 (by decide +kernel) rfl
theorem tw_775 : (Jvm.Cond.lays "java/lang/IllegalStateException" "java/lang/Throwable" "suppressedExceptions" "Ljava/util/List;") ∈ xT := xT_in 775 (by decide +kernel) rfl
theorem tw_776 : (Jvm.Cond.lays "java/lang/IllegalStateException" "java/lang/Throwable" "detailMessage" "Ljava/lang/String;") ∈ xT := xT_in 776 (by decide +kernel) rfl
theorem tw_777 : (Jvm.Cond.lays "java/lang/IllegalStateException" "java/lang/Throwable" "backtrace" "Ljava/lang/Object;") ∈ xT := xT_in 777 (by decide +kernel) rfl
theorem tw_779 : (Jvm.Cond.methodLink "UnitKitchens" (340 : Nat) ({ cls := "java/lang/IllegalStateException", name := "<init>", desc := "(Ljava/lang/String;)V" } : Jvm.MethodName)) ∈ xT := xT_in 779 (by decide +kernel) rfl
theorem tw_780 : (Jvm.Cond.instanceMethod ({ cls := "java/lang/IllegalStateException", name := "<init>", desc := "(Ljava/lang/String;)V" } : Jvm.MethodName)) ∈ xT := xT_in 780 (by decide +kernel) rfl
theorem tw_781 : (Jvm.Cond.code ({ cls := "java/lang/IllegalStateException", name := "<init>", desc := "(Ljava/lang/String;)V" } : Jvm.MethodName) prog_15_method_2_code (2 : Nat) (Option.none : Option Jvm.ClassFile.FieldType)) ∈ xT := xT_in 781 (by decide +kernel) rfl
theorem tw_782 : (Jvm.Cond.methodLink "java/lang/IllegalStateException" (7 : Nat) ({ cls := "java/lang/RuntimeException", name := "<init>", desc := "(Ljava/lang/String;)V" } : Jvm.MethodName)) ∈ xT := xT_in 782 (by decide +kernel) rfl
theorem tw_783 : (Jvm.Cond.lays "java/lang/IllegalStateException" "java/lang/Throwable" "depth" "I") ∈ xT := xT_in 783 (by decide +kernel) rfl
theorem tw_785 : (Jvm.Cond.methodLink "UnitKitchens" (52 : Nat) ({ cls := "UnitKitchens$SavedFilms", name := "keep", desc := "(LUnitKitchens$Film;)V" } : Jvm.MethodName)) ∈ xT := xT_in 785 (by decide +kernel) rfl
theorem tw_786 : (Jvm.Cond.instanceMethod ({ cls := "UnitKitchens$SavedFilms", name := "keep", desc := "(LUnitKitchens$Film;)V" } : Jvm.MethodName)) ∈ xT := xT_in 786 (by decide +kernel) rfl
theorem tw_787 : (Jvm.Cond.selects "UnitKitchens$SavedFilms" ({ cls := "UnitKitchens$SavedFilms", name := "keep", desc := "(LUnitKitchens$Film;)V" } : Jvm.MethodName) ({ cls := "UnitKitchens$SavedFilms", name := "keep", desc := "(LUnitKitchens$Film;)V" } : Jvm.MethodName)) ∈ xT := xT_in 787 (by decide +kernel) rfl
theorem tw_788 : (Jvm.Cond.code ({ cls := "UnitKitchens$SavedFilms", name := "keep", desc := "(LUnitKitchens$Film;)V" } : Jvm.MethodName) prog_6_method_2_code (2 : Nat) (Option.none : Option Jvm.ClassFile.FieldType)) ∈ xT := xT_in 788 (by decide +kernel) rfl
theorem tw_789 : (Jvm.Cond.methodLink "UnitKitchens$SavedFilms" (22 : Nat) ({ cls := "UnitKitchens$Film", name := "copyFrom", desc := "(LUnitKitchens$Film;)V" } : Jvm.MethodName)) ∈ xT := xT_in 789 (by decide +kernel) rfl
theorem tw_790 : (Jvm.Cond.methodLink "UnitKitchens$SavedFilms" (29 : Nat) ({ cls := "java/lang/Math", name := "min", desc := "(II)I" } : Jvm.MethodName)) ∈ xT := xT_in 790 (by decide +kernel) rfl
theorem tw_791 : (Jvm.Cond.methodLink "UnitKitchens" (56 : Nat) ({ cls := "UnitKitchens$Film", name := "newPlace", desc := "(II)I" } : Jvm.MethodName)) ∈ xT := xT_in 791 (by decide +kernel) rfl
theorem tw_792 : (Jvm.Cond.instanceMethod ({ cls := "UnitKitchens$Film", name := "newPlace", desc := "(II)I" } : Jvm.MethodName)) ∈ xT := xT_in 792 (by decide +kernel) rfl
theorem tw_793 : (Jvm.Cond.selects "UnitKitchens$Film" ({ cls := "UnitKitchens$Film", name := "newPlace", desc := "(II)I" } : Jvm.MethodName) ({ cls := "UnitKitchens$Film", name := "newPlace", desc := "(II)I" } : Jvm.MethodName)) ∈ xT := xT_in 793 (by decide +kernel) rfl
theorem tw_794 : (Jvm.Cond.code ({ cls := "UnitKitchens$Film", name := "newPlace", desc := "(II)I" } : Jvm.MethodName) prog_2_method_3_code (3 : Nat) (Option.some Jvm.ClassFile.FieldType.int)) ∈ xT := xT_in 794 (by decide +kernel) rfl
theorem tw_795 : (Jvm.Cond.methodLink "UnitKitchensLaw" (121 : Nat) ({ cls := "UnitKitchensLaw", name := "addKitchen", desc := "(LUnitKitchens;I[J)I" } : Jvm.MethodName)) ∈ xT := xT_in 795 (by decide +kernel) rfl
theorem tw_796 : (Jvm.Cond.static ({ cls := "UnitKitchensLaw", name := "addKitchen", desc := "(LUnitKitchens;I[J)I" } : Jvm.MethodName)) ∈ xT := xT_in 796 (by decide +kernel) rfl
theorem tw_798 : (Jvm.Cond.classLink "UnitKitchensLaw" (21 : Nat) "java/lang/IndexOutOfBoundsException") ∈ xT := xT_in 798 (by decide +kernel) rfl
theorem tw_799 : (Jvm.Cond.methodLink "UnitKitchensLaw" (17 : Nat) ({ cls := "UnitKitchens", name := "addKitchen", desc := "(I)I" } : Jvm.MethodName)) ∈ xT := xT_in 799 (by decide +kernel) rfl
theorem tw_800 : (Jvm.Cond.instanceMethod ({ cls := "UnitKitchens", name := "addKitchen", desc := "(I)I" } : Jvm.MethodName)) ∈ xT := xT_in 800 (by decide +kernel) rfl
theorem tw_801 : (Jvm.Cond.selects "UnitKitchens" ({ cls := "UnitKitchens", name := "addKitchen", desc := "(I)I" } : Jvm.MethodName) ({ cls := "UnitKitchens", name := "addKitchen", desc := "(I)I" } : Jvm.MethodName)) ∈ xT := xT_in 801 (by decide +kernel) rfl
theorem tw_802 : (Jvm.Cond.code ({ cls := "UnitKitchens", name := "addKitchen", desc := "(I)I" } : Jvm.MethodName) prog_1_method_3_code (2 : Nat) (Option.some Jvm.ClassFile.FieldType.int)) ∈ xT := xT_in 802 (by decide +kernel) rfl
theorem tw_803 : (Jvm.Cond.methodLink "UnitKitchens" (67 : Nat) ({ cls := "UnitKitchens$Film", name := "newKitchen", desc := "(I)I" } : Jvm.MethodName)) ∈ xT := xT_in 803 (by decide +kernel) rfl
theorem tw_804 : (Jvm.Cond.instanceMethod ({ cls := "UnitKitchens$Film", name := "newKitchen", desc := "(I)I" } : Jvm.MethodName)) ∈ xT := xT_in 804 (by decide +kernel) rfl
theorem tw_805 : (Jvm.Cond.selects "UnitKitchens$Film" ({ cls := "UnitKitchens$Film", name := "newKitchen", desc := "(I)I" } : Jvm.MethodName) ({ cls := "UnitKitchens$Film", name := "newKitchen", desc := "(I)I" } : Jvm.MethodName)) ∈ xT := xT_in 805 (by decide +kernel) rfl
theorem tw_806 : (Jvm.Cond.code ({ cls := "UnitKitchens$Film", name := "newKitchen", desc := "(I)I" } : Jvm.MethodName) prog_2_method_4_code (2 : Nat) (Option.some Jvm.ClassFile.FieldType.int)) ∈ xT := xT_in 806 (by decide +kernel) rfl
theorem tw_807 : (Jvm.Cond.methodLink "UnitKitchensLaw" (125 : Nat) ({ cls := "UnitKitchensLaw", name := "addLorry", desc := "(LUnitKitchens;I[J)I" } : Jvm.MethodName)) ∈ xT := xT_in 807 (by decide +kernel) rfl
theorem tw_808 : (Jvm.Cond.static ({ cls := "UnitKitchensLaw", name := "addLorry", desc := "(LUnitKitchens;I[J)I" } : Jvm.MethodName)) ∈ xT := xT_in 808 (by decide +kernel) rfl
theorem tw_810 : (Jvm.Cond.methodLink "UnitKitchensLaw" (23 : Nat) ({ cls := "UnitKitchens", name := "addLorry", desc := "(I)I" } : Jvm.MethodName)) ∈ xT := xT_in 810 (by decide +kernel) rfl
theorem tw_811 : (Jvm.Cond.instanceMethod ({ cls := "UnitKitchens", name := "addLorry", desc := "(I)I" } : Jvm.MethodName)) ∈ xT := xT_in 811 (by decide +kernel) rfl
theorem tw_812 : (Jvm.Cond.selects "UnitKitchens" ({ cls := "UnitKitchens", name := "addLorry", desc := "(I)I" } : Jvm.MethodName) ({ cls := "UnitKitchens", name := "addLorry", desc := "(I)I" } : Jvm.MethodName)) ∈ xT := xT_in 812 (by decide +kernel) rfl
theorem tw_813 : (Jvm.Cond.code ({ cls := "UnitKitchens", name := "addLorry", desc := "(I)I" } : Jvm.MethodName) prog_1_method_4_code (2 : Nat) (Option.some Jvm.ClassFile.FieldType.int)) ∈ xT := xT_in 813 (by decide +kernel) rfl
theorem tw_814 : (Jvm.Cond.methodLink "UnitKitchens" (74 : Nat) ({ cls := "UnitKitchens$Film", name := "newLorry", desc := "(I)I" } : Jvm.MethodName)) ∈ xT := xT_in 814 (by decide +kernel) rfl
theorem tw_815 : (Jvm.Cond.instanceMethod ({ cls := "UnitKitchens$Film", name := "newLorry", desc := "(I)I" } : Jvm.MethodName)) ∈ xT := xT_in 815 (by decide +kernel) rfl
theorem tw_816 : (Jvm.Cond.selects "UnitKitchens$Film" ({ cls := "UnitKitchens$Film", name := "newLorry", desc := "(I)I" } : Jvm.MethodName) ({ cls := "UnitKitchens$Film", name := "newLorry", desc := "(I)I" } : Jvm.MethodName)) ∈ xT := xT_in 816 (by decide +kernel) rfl
theorem tw_817 : (Jvm.Cond.code ({ cls := "UnitKitchens$Film", name := "newLorry", desc := "(I)I" } : Jvm.MethodName) prog_2_method_5_code (2 : Nat) (Option.some Jvm.ClassFile.FieldType.int)) ∈ xT := xT_in 817 (by decide +kernel) rfl
theorem tw_818 : (Jvm.Cond.methodLink "UnitKitchensLaw" (128 : Nat) ({ cls := "UnitKitchensLaw", name := "set", desc := "(LUnitKitchens;II[J)I" } : Jvm.MethodName)) ∈ xT := xT_in 818 (by decide +kernel) rfl
theorem tw_819 : (Jvm.Cond.static ({ cls := "UnitKitchensLaw", name := "set", desc := "(LUnitKitchens;II[J)I" } : Jvm.MethodName)) ∈ xT := xT_in 819 (by decide +kernel) rfl
theorem tw_821 : (Jvm.Cond.methodLink "UnitKitchensLaw" (26 : Nat) ({ cls := "UnitKitchens", name := "set", desc := "(II)I" } : Jvm.MethodName)) ∈ xT := xT_in 821 (by decide +kernel) rfl
theorem tw_822 : (Jvm.Cond.instanceMethod ({ cls := "UnitKitchens", name := "set", desc := "(II)I" } : Jvm.MethodName)) ∈ xT := xT_in 822 (by decide +kernel) rfl
theorem tw_823 : (Jvm.Cond.selects "UnitKitchens" ({ cls := "UnitKitchens", name := "set", desc := "(II)I" } : Jvm.MethodName) ({ cls := "UnitKitchens", name := "set", desc := "(II)I" } : Jvm.MethodName)) ∈ xT := xT_in 823 (by decide +kernel) rfl
theorem tw_824 : (Jvm.Cond.code ({ cls := "UnitKitchens", name := "set", desc := "(II)I" } : Jvm.MethodName) prog_1_method_5_code (4 : Nat) (Option.some Jvm.ClassFile.FieldType.int)) ∈ xT := xT_in 824 (by decide +kernel) rfl
theorem tw_825 : (Jvm.Cond.fieldLink "UnitKitchens" (77 : Nat) "UnitKitchens" "LEAST_SETTING" "[I") ∈ xT := xT_in 825 (by decide +kernel) rfl
theorem tw_827 : (Jvm.Cond.fieldLink "UnitKitchens" (81 : Nat) "UnitKitchens" "MOST_SETTING" "[I") ∈ xT := xT_in 827 (by decide +kernel) rfl
theorem tw_829 : (Jvm.Cond.methodLink "UnitKitchensLaw" (131 : Nat) ({ cls := "UnitKitchensLaw", name := "stock", desc := "(LUnitKitchens;III[J)I" } : Jvm.MethodName)) ∈ xT := xT_in 829 (by decide +kernel) rfl
theorem tw_830 : (Jvm.Cond.static ({ cls := "UnitKitchensLaw", name := "stock", desc := "(LUnitKitchens;III[J)I" } : Jvm.MethodName)) ∈ xT := xT_in 830 (by decide +kernel) rfl
theorem tw_832 : (Jvm.Cond.methodLink "UnitKitchensLaw" (29 : Nat) ({ cls := "UnitKitchens", name := "stock", desc := "(III)I" } : Jvm.MethodName)) ∈ xT := xT_in 832 (by decide +kernel) rfl
theorem tw_833 : (Jvm.Cond.instanceMethod ({ cls := "UnitKitchens", name := "stock", desc := "(III)I" } : Jvm.MethodName)) ∈ xT := xT_in 833 (by decide +kernel) rfl
theorem tw_834 : (Jvm.Cond.selects "UnitKitchens" ({ cls := "UnitKitchens", name := "stock", desc := "(III)I" } : Jvm.MethodName) ({ cls := "UnitKitchens", name := "stock", desc := "(III)I" } : Jvm.MethodName)) ∈ xT := xT_in 834 (by decide +kernel) rfl
theorem tw_835 : (Jvm.Cond.code ({ cls := "UnitKitchens", name := "stock", desc := "(III)I" } : Jvm.MethodName) prog_1_method_6_code (5 : Nat) (Option.some Jvm.ClassFile.FieldType.int)) ∈ xT := xT_in 835 (by decide +kernel) rfl
theorem tw_836 : (Jvm.Cond.methodLink "UnitKitchensLaw" (135 : Nat) ({ cls := "UnitKitchensLaw", name := "cook", desc := "(LUnitKitchens;III[J)I" } : Jvm.MethodName)) ∈ xT := xT_in 836 (by decide +kernel) rfl
theorem tw_837 : (Jvm.Cond.static ({ cls := "UnitKitchensLaw", name := "cook", desc := "(LUnitKitchens;III[J)I" } : Jvm.MethodName)) ∈ xT := xT_in 837 (by decide +kernel) rfl
theorem tw_839 : (Jvm.Cond.methodLink "UnitKitchensLaw" (33 : Nat) ({ cls := "UnitKitchens", name := "cook", desc := "(III)I" } : Jvm.MethodName)) ∈ xT := xT_in 839 (by decide +kernel) rfl
theorem tw_840 : (Jvm.Cond.instanceMethod ({ cls := "UnitKitchens", name := "cook", desc := "(III)I" } : Jvm.MethodName)) ∈ xT := xT_in 840 (by decide +kernel) rfl
theorem tw_841 : (Jvm.Cond.selects "UnitKitchens" ({ cls := "UnitKitchens", name := "cook", desc := "(III)I" } : Jvm.MethodName) ({ cls := "UnitKitchens", name := "cook", desc := "(III)I" } : Jvm.MethodName)) ∈ xT := xT_in 841 (by decide +kernel) rfl
theorem tw_842 : (Jvm.Cond.code ({ cls := "UnitKitchens", name := "cook", desc := "(III)I" } : Jvm.MethodName) prog_1_method_7_code (5 : Nat) (Option.some Jvm.ClassFile.FieldType.int)) ∈ xT := xT_in 842 (by decide +kernel) rfl
theorem tw_843 : (Jvm.Cond.methodLink "UnitKitchens" (102 : Nat) ({ cls := "UnitKitchens$Kitchen", name := "fillPot", desc := "(II)V" } : Jvm.MethodName)) ∈ xT := xT_in 843 (by decide +kernel) rfl
theorem tw_844 : (Jvm.Cond.instanceMethod ({ cls := "UnitKitchens$Kitchen", name := "fillPot", desc := "(II)V" } : Jvm.MethodName)) ∈ xT := xT_in 844 (by decide +kernel) rfl
theorem tw_845 : (Jvm.Cond.selects "UnitKitchens$Kitchen" ({ cls := "UnitKitchens$Kitchen", name := "fillPot", desc := "(II)V" } : Jvm.MethodName) ({ cls := "UnitKitchens$Kitchen", name := "fillPot", desc := "(II)V" } : Jvm.MethodName)) ∈ xT := xT_in 845 (by decide +kernel) rfl
theorem tw_846 : (Jvm.Cond.code ({ cls := "UnitKitchens$Kitchen", name := "fillPot", desc := "(II)V" } : Jvm.MethodName) prog_3_method_4_code (4 : Nat) (Option.none : Option Jvm.ClassFile.FieldType)) ∈ xT := xT_in 846 (by decide +kernel) rfl
theorem tw_847 : (Jvm.Cond.methodLink "UnitKitchens" (105 : Nat) ({ cls := "UnitKitchens", name := "dividedUp", desc := "(II)I" } : Jvm.MethodName)) ∈ xT := xT_in 847 (by decide +kernel) rfl
theorem tw_848 : (Jvm.Cond.methodLink "UnitKitchensLaw" (138 : Nat) ({ cls := "UnitKitchensLaw", name := "load", desc := "(LUnitKitchens;IIII[J)I" } : Jvm.MethodName)) ∈ xT := xT_in 848 (by decide +kernel) rfl
theorem tw_849 : (Jvm.Cond.static ({ cls := "UnitKitchensLaw", name := "load", desc := "(LUnitKitchens;IIII[J)I" } : Jvm.MethodName)) ∈ xT := xT_in 849 (by decide +kernel) rfl
theorem tw_851 : (Jvm.Cond.methodLink "UnitKitchensLaw" (36 : Nat) ({ cls := "UnitKitchens", name := "load", desc := "(IIII)I" } : Jvm.MethodName)) ∈ xT := xT_in 851 (by decide +kernel) rfl
theorem tw_852 : (Jvm.Cond.instanceMethod ({ cls := "UnitKitchens", name := "load", desc := "(IIII)I" } : Jvm.MethodName)) ∈ xT := xT_in 852 (by decide +kernel) rfl
theorem tw_853 : (Jvm.Cond.selects "UnitKitchens" ({ cls := "UnitKitchens", name := "load", desc := "(IIII)I" } : Jvm.MethodName) ({ cls := "UnitKitchens", name := "load", desc := "(IIII)I" } : Jvm.MethodName)) ∈ xT := xT_in 853 (by decide +kernel) rfl
theorem tw_854 : (Jvm.Cond.code ({ cls := "UnitKitchens", name := "load", desc := "(IIII)I" } : Jvm.MethodName) prog_1_method_8_code (7 : Nat) (Option.some Jvm.ClassFile.FieldType.int)) ∈ xT := xT_in 854 (by decide +kernel) rfl
theorem tw_855 : (Jvm.Cond.methodLink "UnitKitchens" (128 : Nat) ({ cls := "UnitKitchens$Meals", name := "inAll", desc := "()I" } : Jvm.MethodName)) ∈ xT := xT_in 855 (by decide +kernel) rfl
theorem tw_856 : (Jvm.Cond.methodLink "UnitKitchens" (135 : Nat) ({ cls := "UnitKitchens$Meals", name := "carryFirst", desc := "(IIILUnitKitchens$Meals;)V" } : Jvm.MethodName)) ∈ xT := xT_in 856 (by decide +kernel) rfl
theorem tw_857 : (Jvm.Cond.instanceMethod ({ cls := "UnitKitchens$Meals", name := "carryFirst", desc := "(IIILUnitKitchens$Meals;)V" } : Jvm.MethodName)) ∈ xT := xT_in 857 (by decide +kernel) rfl
theorem tw_858 : (Jvm.Cond.selects "UnitKitchens$Meals" ({ cls := "UnitKitchens$Meals", name := "carryFirst", desc := "(IIILUnitKitchens$Meals;)V" } : Jvm.MethodName) ({ cls := "UnitKitchens$Meals", name := "carryFirst", desc := "(IIILUnitKitchens$Meals;)V" } : Jvm.MethodName)) ∈ xT := xT_in 858 (by decide +kernel) rfl
theorem tw_859 : (Jvm.Cond.code ({ cls := "UnitKitchens$Meals", name := "carryFirst", desc := "(IIILUnitKitchens$Meals;)V" } : Jvm.MethodName) prog_5_method_10_code (8 : Nat) (Option.none : Option Jvm.ClassFile.FieldType)) ∈ xT := xT_in 859 (by decide +kernel) rfl
theorem tw_860 : (Jvm.Cond.methodLink "UnitKitchens$Meals" (54 : Nat) ({ cls := "UnitKitchens$Meals", name := "put", desc := "(III)V" } : Jvm.MethodName)) ∈ xT := xT_in 860 (by decide +kernel) rfl
theorem tw_861 : (Jvm.Cond.methodLink "UnitKitchensLaw" (142 : Nat) ({ cls := "UnitKitchensLaw", name := "unload", desc := "(LUnitKitchens;II[J)I" } : Jvm.MethodName)) ∈ xT := xT_in 861 (by decide +kernel) rfl
theorem tw_862 : (Jvm.Cond.static ({ cls := "UnitKitchensLaw", name := "unload", desc := "(LUnitKitchens;II[J)I" } : Jvm.MethodName)) ∈ xT := xT_in 862 (by decide +kernel) rfl
theorem tw_864 : (Jvm.Cond.methodLink "UnitKitchensLaw" (40 : Nat) ({ cls := "UnitKitchens", name := "unload", desc := "(II)I" } : Jvm.MethodName)) ∈ xT := xT_in 864 (by decide +kernel) rfl
theorem tw_865 : (Jvm.Cond.instanceMethod ({ cls := "UnitKitchens", name := "unload", desc := "(II)I" } : Jvm.MethodName)) ∈ xT := xT_in 865 (by decide +kernel) rfl
theorem tw_866 : (Jvm.Cond.selects "UnitKitchens" ({ cls := "UnitKitchens", name := "unload", desc := "(II)I" } : Jvm.MethodName) ({ cls := "UnitKitchens", name := "unload", desc := "(II)I" } : Jvm.MethodName)) ∈ xT := xT_in 866 (by decide +kernel) rfl
theorem tw_867 : (Jvm.Cond.code ({ cls := "UnitKitchens", name := "unload", desc := "(II)I" } : Jvm.MethodName) prog_1_method_9_code (7 : Nat) (Option.some Jvm.ClassFile.FieldType.int)) ∈ xT := xT_in 867 (by decide +kernel) rfl
theorem tw_868 : (Jvm.Cond.methodLink "UnitKitchensLaw" (145 : Nat) ({ cls := "UnitKitchensLaw", name := "drive", desc := "(LUnitKitchens;II[J)I" } : Jvm.MethodName)) ∈ xT := xT_in 868 (by decide +kernel) rfl
theorem tw_869 : (Jvm.Cond.static ({ cls := "UnitKitchensLaw", name := "drive", desc := "(LUnitKitchens;II[J)I" } : Jvm.MethodName)) ∈ xT := xT_in 869 (by decide +kernel) rfl
theorem tw_871 : (Jvm.Cond.methodLink "UnitKitchensLaw" (43 : Nat) ({ cls := "UnitKitchens", name := "drive", desc := "(II)I" } : Jvm.MethodName)) ∈ xT := xT_in 871 (by decide +kernel) rfl
theorem tw_872 : (Jvm.Cond.instanceMethod ({ cls := "UnitKitchens", name := "drive", desc := "(II)I" } : Jvm.MethodName)) ∈ xT := xT_in 872 (by decide +kernel) rfl
theorem tw_873 : (Jvm.Cond.selects "UnitKitchens" ({ cls := "UnitKitchens", name := "drive", desc := "(II)I" } : Jvm.MethodName) ({ cls := "UnitKitchens", name := "drive", desc := "(II)I" } : Jvm.MethodName)) ∈ xT := xT_in 873 (by decide +kernel) rfl
theorem tw_874 : (Jvm.Cond.code ({ cls := "UnitKitchens", name := "drive", desc := "(II)I" } : Jvm.MethodName) prog_1_method_10_code (4 : Nat) (Option.some Jvm.ClassFile.FieldType.int)) ∈ xT := xT_in 874 (by decide +kernel) rfl
theorem tw_875 : (Jvm.Cond.methodLink "UnitKitchens" (139 : Nat) ({ cls := "UnitKitchens$Film", name := "driveMinutes", desc := "(II)I" } : Jvm.MethodName)) ∈ xT := xT_in 875 (by decide +kernel) rfl
theorem tw_876 : (Jvm.Cond.methodLink "UnitKitchensLaw" (148 : Nat) ({ cls := "UnitKitchensLaw", name := "addUnit", desc := "(LUnitKitchens;IIIII[J)I" } : Jvm.MethodName)) ∈ xT := xT_in 876 (by decide +kernel) rfl
theorem tw_877 : (Jvm.Cond.static ({ cls := "UnitKitchensLaw", name := "addUnit", desc := "(LUnitKitchens;IIIII[J)I" } : Jvm.MethodName)) ∈ xT := xT_in 877 (by decide +kernel) rfl
theorem tw_879 : (Jvm.Cond.methodLink "UnitKitchensLaw" (46 : Nat) ({ cls := "UnitKitchens", name := "addUnit", desc := "(IIIII)I" } : Jvm.MethodName)) ∈ xT := xT_in 879 (by decide +kernel) rfl
theorem tw_880 : (Jvm.Cond.instanceMethod ({ cls := "UnitKitchens", name := "addUnit", desc := "(IIIII)I" } : Jvm.MethodName)) ∈ xT := xT_in 880 (by decide +kernel) rfl
theorem tw_881 : (Jvm.Cond.selects "UnitKitchens" ({ cls := "UnitKitchens", name := "addUnit", desc := "(IIIII)I" } : Jvm.MethodName) ({ cls := "UnitKitchens", name := "addUnit", desc := "(IIIII)I" } : Jvm.MethodName)) ∈ xT := xT_in 881 (by decide +kernel) rfl
theorem tw_882 : (Jvm.Cond.code ({ cls := "UnitKitchens", name := "addUnit", desc := "(IIIII)I" } : Jvm.MethodName) prog_1_method_11_code (6 : Nat) (Option.some Jvm.ClassFile.FieldType.int)) ∈ xT := xT_in 882 (by decide +kernel) rfl
theorem tw_883 : (Jvm.Cond.methodLink "UnitKitchens" (151 : Nat) ({ cls := "UnitKitchens$Film", name := "newUnit", desc := "(IIIII)I" } : Jvm.MethodName)) ∈ xT := xT_in 883 (by decide +kernel) rfl
theorem tw_884 : (Jvm.Cond.instanceMethod ({ cls := "UnitKitchens$Film", name := "newUnit", desc := "(IIIII)I" } : Jvm.MethodName)) ∈ xT := xT_in 884 (by decide +kernel) rfl
theorem tw_885 : (Jvm.Cond.selects "UnitKitchens$Film" ({ cls := "UnitKitchens$Film", name := "newUnit", desc := "(IIIII)I" } : Jvm.MethodName) ({ cls := "UnitKitchens$Film", name := "newUnit", desc := "(IIIII)I" } : Jvm.MethodName)) ∈ xT := xT_in 885 (by decide +kernel) rfl
theorem tw_886 : (Jvm.Cond.code ({ cls := "UnitKitchens$Film", name := "newUnit", desc := "(IIIII)I" } : Jvm.MethodName) prog_2_method_6_code (7 : Nat) (Option.some Jvm.ClassFile.FieldType.int)) ∈ xT := xT_in 886 (by decide +kernel) rfl
theorem tw_887 : (Jvm.Cond.methodLink "UnitKitchensLaw" (152 : Nat) ({ cls := "UnitKitchensLaw", name := "split", desc := "(LUnitKitchens;III[J)I" } : Jvm.MethodName)) ∈ xT := xT_in 887 (by decide +kernel) rfl
theorem tw_888 : (Jvm.Cond.static ({ cls := "UnitKitchensLaw", name := "split", desc := "(LUnitKitchens;III[J)I" } : Jvm.MethodName)) ∈ xT := xT_in 888 (by decide +kernel) rfl
theorem tw_890 : (Jvm.Cond.methodLink "UnitKitchensLaw" (50 : Nat) ({ cls := "UnitKitchens", name := "split", desc := "(III)I" } : Jvm.MethodName)) ∈ xT := xT_in 890 (by decide +kernel) rfl
theorem tw_891 : (Jvm.Cond.instanceMethod ({ cls := "UnitKitchens", name := "split", desc := "(III)I" } : Jvm.MethodName)) ∈ xT := xT_in 891 (by decide +kernel) rfl
theorem tw_892 : (Jvm.Cond.selects "UnitKitchens" ({ cls := "UnitKitchens", name := "split", desc := "(III)I" } : Jvm.MethodName) ({ cls := "UnitKitchens", name := "split", desc := "(III)I" } : Jvm.MethodName)) ∈ xT := xT_in 892 (by decide +kernel) rfl
theorem tw_893 : (Jvm.Cond.code ({ cls := "UnitKitchens", name := "split", desc := "(III)I" } : Jvm.MethodName) prog_1_method_12_code (5 : Nat) (Option.some Jvm.ClassFile.FieldType.int)) ∈ xT := xT_in 893 (by decide +kernel) rfl
theorem tw_894 : (Jvm.Cond.methodLink "UnitKitchensLaw" (155 : Nat) ({ cls := "UnitKitchensLaw", name := "join", desc := "(LUnitKitchens;II[J)I" } : Jvm.MethodName)) ∈ xT := xT_in 894 (by decide +kernel) rfl
theorem tw_895 : (Jvm.Cond.static ({ cls := "UnitKitchensLaw", name := "join", desc := "(LUnitKitchens;II[J)I" } : Jvm.MethodName)) ∈ xT := xT_in 895 (by decide +kernel) rfl
theorem tw_897 : (Jvm.Cond.methodLink "UnitKitchensLaw" (53 : Nat) ({ cls := "UnitKitchens", name := "join", desc := "(II)I" } : Jvm.MethodName)) ∈ xT := xT_in 897 (by decide +kernel) rfl
theorem tw_898 : (Jvm.Cond.instanceMethod ({ cls := "UnitKitchens", name := "join", desc := "(II)I" } : Jvm.MethodName)) ∈ xT := xT_in 898 (by decide +kernel) rfl
theorem tw_899 : (Jvm.Cond.selects "UnitKitchens" ({ cls := "UnitKitchens", name := "join", desc := "(II)I" } : Jvm.MethodName) ({ cls := "UnitKitchens", name := "join", desc := "(II)I" } : Jvm.MethodName)) ∈ xT := xT_in 899 (by decide +kernel) rfl
theorem tw_900 : (Jvm.Cond.code ({ cls := "UnitKitchens", name := "join", desc := "(II)I" } : Jvm.MethodName) prog_1_method_13_code (5 : Nat) (Option.some Jvm.ClassFile.FieldType.int)) ∈ xT := xT_in 900 (by decide +kernel) rfl
theorem tw_902 : (Jvm.Cond.methodLink "UnitKitchens" (184 : Nat) ({ cls := "UnitKitchens$Unit", name := "takeIn", desc := "(LUnitKitchens$Unit;)V" } : Jvm.MethodName)) ∈ xT := xT_in 902 (by decide +kernel) rfl
theorem tw_903 : (Jvm.Cond.instanceMethod ({ cls := "UnitKitchens$Unit", name := "takeIn", desc := "(LUnitKitchens$Unit;)V" } : Jvm.MethodName)) ∈ xT := xT_in 903 (by decide +kernel) rfl
theorem tw_904 : (Jvm.Cond.selects "UnitKitchens$Unit" ({ cls := "UnitKitchens$Unit", name := "takeIn", desc := "(LUnitKitchens$Unit;)V" } : Jvm.MethodName) ({ cls := "UnitKitchens$Unit", name := "takeIn", desc := "(LUnitKitchens$Unit;)V" } : Jvm.MethodName)) ∈ xT := xT_in 904 (by decide +kernel) rfl
theorem tw_905 : (Jvm.Cond.code ({ cls := "UnitKitchens$Unit", name := "takeIn", desc := "(LUnitKitchens$Unit;)V" } : Jvm.MethodName) prog_8_method_9_code (2 : Nat) (Option.none : Option Jvm.ClassFile.FieldType)) ∈ xT := xT_in 905 (by decide +kernel) rfl
theorem tw_906 : (Jvm.Cond.methodLink "UnitKitchens$Unit" (56 : Nat) ({ cls := "java/lang/Math", name := "min", desc := "(II)I" } : Jvm.MethodName)) ∈ xT := xT_in 906 (by decide +kernel) rfl
theorem tw_907 : (Jvm.Cond.methodLink "UnitKitchens" (188 : Nat) ({ cls := "UnitKitchens$Unit", name := "leave", desc := "(I)V" } : Jvm.MethodName)) ∈ xT := xT_in 907 (by decide +kernel) rfl
theorem tw_908 : (Jvm.Cond.instanceMethod ({ cls := "UnitKitchens$Unit", name := "leave", desc := "(I)V" } : Jvm.MethodName)) ∈ xT := xT_in 908 (by decide +kernel) rfl
theorem tw_909 : (Jvm.Cond.selects "UnitKitchens$Unit" ({ cls := "UnitKitchens$Unit", name := "leave", desc := "(I)V" } : Jvm.MethodName) ({ cls := "UnitKitchens$Unit", name := "leave", desc := "(I)V" } : Jvm.MethodName)) ∈ xT := xT_in 909 (by decide +kernel) rfl
theorem tw_910 : (Jvm.Cond.code ({ cls := "UnitKitchens$Unit", name := "leave", desc := "(I)V" } : Jvm.MethodName) prog_8_method_10_code (2 : Nat) (Option.none : Option Jvm.ClassFile.FieldType)) ∈ xT := xT_in 910 (by decide +kernel) rfl
theorem tw_911 : (Jvm.Cond.methodLink "UnitKitchensLaw" (158 : Nat) ({ cls := "UnitKitchensLaw", name := "move", desc := "(LUnitKitchens;II[J)I" } : Jvm.MethodName)) ∈ xT := xT_in 911 (by decide +kernel) rfl
theorem tw_912 : (Jvm.Cond.static ({ cls := "UnitKitchensLaw", name := "move", desc := "(LUnitKitchens;II[J)I" } : Jvm.MethodName)) ∈ xT := xT_in 912 (by decide +kernel) rfl
theorem tw_914 : (Jvm.Cond.methodLink "UnitKitchensLaw" (56 : Nat) ({ cls := "UnitKitchens", name := "move", desc := "(II)I" } : Jvm.MethodName)) ∈ xT := xT_in 914 (by decide +kernel) rfl
theorem tw_915 : (Jvm.Cond.instanceMethod ({ cls := "UnitKitchens", name := "move", desc := "(II)I" } : Jvm.MethodName)) ∈ xT := xT_in 915 (by decide +kernel) rfl
theorem tw_916 : (Jvm.Cond.selects "UnitKitchens" ({ cls := "UnitKitchens", name := "move", desc := "(II)I" } : Jvm.MethodName) ({ cls := "UnitKitchens", name := "move", desc := "(II)I" } : Jvm.MethodName)) ∈ xT := xT_in 916 (by decide +kernel) rfl
theorem tw_917 : (Jvm.Cond.code ({ cls := "UnitKitchens", name := "move", desc := "(II)I" } : Jvm.MethodName) prog_1_method_14_code (5 : Nat) (Option.some Jvm.ClassFile.FieldType.int)) ∈ xT := xT_in 917 (by decide +kernel) rfl
theorem tw_918 : (Jvm.Cond.methodLink "UnitKitchensLaw" (161 : Nat) ({ cls := "UnitKitchensLaw", name := "wrap", desc := "(LUnitKitchens;I[J)I" } : Jvm.MethodName)) ∈ xT := xT_in 918 (by decide +kernel) rfl
theorem tw_919 : (Jvm.Cond.static ({ cls := "UnitKitchensLaw", name := "wrap", desc := "(LUnitKitchens;I[J)I" } : Jvm.MethodName)) ∈ xT := xT_in 919 (by decide +kernel) rfl
theorem tw_921 : (Jvm.Cond.methodLink "UnitKitchensLaw" (59 : Nat) ({ cls := "UnitKitchens", name := "wrap", desc := "(I)I" } : Jvm.MethodName)) ∈ xT := xT_in 921 (by decide +kernel) rfl
theorem tw_922 : (Jvm.Cond.instanceMethod ({ cls := "UnitKitchens", name := "wrap", desc := "(I)I" } : Jvm.MethodName)) ∈ xT := xT_in 922 (by decide +kernel) rfl
theorem tw_923 : (Jvm.Cond.selects "UnitKitchens" ({ cls := "UnitKitchens", name := "wrap", desc := "(I)I" } : Jvm.MethodName) ({ cls := "UnitKitchens", name := "wrap", desc := "(I)I" } : Jvm.MethodName)) ∈ xT := xT_in 923 (by decide +kernel) rfl
theorem tw_924 : (Jvm.Cond.code ({ cls := "UnitKitchens", name := "wrap", desc := "(I)I" } : Jvm.MethodName) prog_1_method_15_code (3 : Nat) (Option.some Jvm.ClassFile.FieldType.int)) ∈ xT := xT_in 924 (by decide +kernel) rfl
theorem tw_925 : (Jvm.Cond.methodLink "UnitKitchens" (192 : Nat) ({ cls := "UnitKitchens$Unit", name := "owed", desc := "()I" } : Jvm.MethodName)) ∈ xT := xT_in 925 (by decide +kernel) rfl
theorem tw_926 : (Jvm.Cond.methodLink "UnitKitchensLaw" (164 : Nat) ({ cls := "UnitKitchensLaw", name := "pass", desc := "(LUnitKitchens;I[J)I" } : Jvm.MethodName)) ∈ xT := xT_in 926 (by decide +kernel) rfl
theorem tw_927 : (Jvm.Cond.static ({ cls := "UnitKitchensLaw", name := "pass", desc := "(LUnitKitchens;I[J)I" } : Jvm.MethodName)) ∈ xT := xT_in 927 (by decide +kernel) rfl
theorem tw_929 : (Jvm.Cond.methodLink "UnitKitchensLaw" (62 : Nat) ({ cls := "UnitKitchens", name := "pass", desc := "(I)I" } : Jvm.MethodName)) ∈ xT := xT_in 929 (by decide +kernel) rfl
theorem tw_930 : (Jvm.Cond.instanceMethod ({ cls := "UnitKitchens", name := "pass", desc := "(I)I" } : Jvm.MethodName)) ∈ xT := xT_in 930 (by decide +kernel) rfl
theorem tw_931 : (Jvm.Cond.selects "UnitKitchens" ({ cls := "UnitKitchens", name := "pass", desc := "(I)I" } : Jvm.MethodName) ({ cls := "UnitKitchens", name := "pass", desc := "(I)I" } : Jvm.MethodName)) ∈ xT := xT_in 931 (by decide +kernel) rfl
theorem tw_932 : (Jvm.Cond.code ({ cls := "UnitKitchens", name := "pass", desc := "(I)I" } : Jvm.MethodName) prog_1_method_16_code (4 : Nat) (Option.some Jvm.ClassFile.FieldType.int)) ∈ xT := xT_in 932 (by decide +kernel) rfl
theorem tw_933 : (Jvm.Cond.methodLink "UnitKitchensLaw" (167 : Nat) ({ cls := "UnitKitchensLaw", name := "append", desc := "(LUnitKitchens;I[J)I" } : Jvm.MethodName)) ∈ xT := xT_in 933 (by decide +kernel) rfl
theorem tw_934 : (Jvm.Cond.static ({ cls := "UnitKitchensLaw", name := "append", desc := "(LUnitKitchens;I[J)I" } : Jvm.MethodName)) ∈ xT := xT_in 934 (by decide +kernel) rfl
theorem tw_936 : (Jvm.Cond.methodLink "UnitKitchensLaw" (65 : Nat) ({ cls := "UnitKitchens", name := "append", desc := "(I)I" } : Jvm.MethodName)) ∈ xT := xT_in 936 (by decide +kernel) rfl
theorem tw_937 : (Jvm.Cond.instanceMethod ({ cls := "UnitKitchens", name := "append", desc := "(I)I" } : Jvm.MethodName)) ∈ xT := xT_in 937 (by decide +kernel) rfl
theorem tw_938 : (Jvm.Cond.selects "UnitKitchens" ({ cls := "UnitKitchens", name := "append", desc := "(I)I" } : Jvm.MethodName) ({ cls := "UnitKitchens", name := "append", desc := "(I)I" } : Jvm.MethodName)) ∈ xT := xT_in 938 (by decide +kernel) rfl
theorem tw_939 : (Jvm.Cond.code ({ cls := "UnitKitchens", name := "append", desc := "(I)I" } : Jvm.MethodName) prog_1_method_17_code (2 : Nat) (Option.some Jvm.ClassFile.FieldType.int)) ∈ xT := xT_in 939 (by decide +kernel) rfl
theorem tw_940 : (Jvm.Cond.methodLink "UnitKitchensLaw" (178 : Nat) ({ cls := "UnitKitchensLaw", name := "addSheet", desc := "(LUnitKitchens;[J)I" } : Jvm.MethodName)) ∈ xT := xT_in 940 (by decide +kernel) rfl
theorem tw_941 : (Jvm.Cond.static ({ cls := "UnitKitchensLaw", name := "addSheet", desc := "(LUnitKitchens;[J)I" } : Jvm.MethodName)) ∈ xT := xT_in 941 (by decide +kernel) rfl
theorem tw_943 : (Jvm.Cond.methodLink "UnitKitchensLaw" (68 : Nat) ({ cls := "UnitKitchens", name := "addSheet", desc := "()I" } : Jvm.MethodName)) ∈ xT := xT_in 943 (by decide +kernel) rfl
theorem tw_944 : (Jvm.Cond.instanceMethod ({ cls := "UnitKitchens", name := "addSheet", desc := "()I" } : Jvm.MethodName)) ∈ xT := xT_in 944 (by decide +kernel) rfl
theorem tw_945 : (Jvm.Cond.selects "UnitKitchens" ({ cls := "UnitKitchens", name := "addSheet", desc := "()I" } : Jvm.MethodName) ({ cls := "UnitKitchens", name := "addSheet", desc := "()I" } : Jvm.MethodName)) ∈ xT := xT_in 945 (by decide +kernel) rfl
theorem tw_946 : (Jvm.Cond.code ({ cls := "UnitKitchens", name := "addSheet", desc := "()I" } : Jvm.MethodName) prog_1_method_20_code (2 : Nat) (Option.some Jvm.ClassFile.FieldType.int)) ∈ xT := xT_in 946 (by decide +kernel) rfl
theorem tw_947 : (Jvm.Cond.methodLink "UnitKitchens" (211 : Nat) ({ cls := "UnitKitchens", name := "firstError", desc := "()I" } : Jvm.MethodName)) ∈ xT := xT_in 947 (by decide +kernel) rfl
theorem tw_948 : (Jvm.Cond.methodLink "UnitKitchens" (214 : Nat) ({ cls := "UnitKitchens$SheetReader", name := "mayEnd", desc := "()Z" } : Jvm.MethodName)) ∈ xT := xT_in 948 (by decide +kernel) rfl
theorem tw_949 : (Jvm.Cond.instanceMethod ({ cls := "UnitKitchens$SheetReader", name := "mayEnd", desc := "()Z" } : Jvm.MethodName)) ∈ xT := xT_in 949 (by decide +kernel) rfl
theorem tw_950 : (Jvm.Cond.selects "UnitKitchens$SheetReader" ({ cls := "UnitKitchens$SheetReader", name := "mayEnd", desc := "()Z" } : Jvm.MethodName) ({ cls := "UnitKitchens$SheetReader", name := "mayEnd", desc := "()Z" } : Jvm.MethodName)) ∈ xT := xT_in 950 (by decide +kernel) rfl
theorem tw_951 : (Jvm.Cond.code ({ cls := "UnitKitchens$SheetReader", name := "mayEnd", desc := "()Z" } : Jvm.MethodName) prog_7_method_8_code (1 : Nat) (Option.some Jvm.ClassFile.FieldType.boolean)) ∈ xT := xT_in 951 (by decide +kernel) rfl
theorem tw_953 : (Jvm.Cond.methodLink "UnitKitchens" (220 : Nat) ({ cls := "UnitKitchens", name := "addUnitsOfSheet", desc := "()I" } : Jvm.MethodName)) ∈ xT := xT_in 953 (by decide +kernel) rfl
theorem tw_955 : (Jvm.Cond.instanceMethod ({ cls := "UnitKitchens", name := "addUnitsOfSheet", desc := "()I" } : Jvm.MethodName)) ∈ xT := xT_in 955 (by decide +kernel) rfl
theorem tw_956 : (Jvm.Cond.code ({ cls := "UnitKitchens", name := "addUnitsOfSheet", desc := "()I" } : Jvm.MethodName) prog_1_method_39_code (3 : Nat) (Option.some Jvm.ClassFile.FieldType.int)) ∈ xT := xT_in 956 (by decide +kernel) rfl
theorem tw_957 : (Jvm.Cond.methodLink "UnitKitchens" (341 : Nat) ({ cls := "UnitKitchens", name := "mayAddReadUnit", desc := "()Z" } : Jvm.MethodName)) ∈ xT := xT_in 957 (by decide +kernel) rfl
theorem tw_959 : (Jvm.Cond.instanceMethod ({ cls := "UnitKitchens", name := "mayAddReadUnit", desc := "()Z" } : Jvm.MethodName)) ∈ xT := xT_in 959 (by decide +kernel) rfl
theorem tw_960 : (Jvm.Cond.code ({ cls := "UnitKitchens", name := "mayAddReadUnit", desc := "()Z" } : Jvm.MethodName) prog_1_method_40_code (1 : Nat) (Option.some Jvm.ClassFile.FieldType.boolean)) ∈ xT := xT_in 960 (by decide +kernel) rfl
theorem tw_961 : (Jvm.Cond.methodLink "UnitKitchens" (346 : Nat) ({ cls := "UnitKitchens$SheetReader", name := "greens", desc := "()I" } : Jvm.MethodName)) ∈ xT := xT_in 961 (by decide +kernel) rfl
theorem tw_962 : (Jvm.Cond.instanceMethod ({ cls := "UnitKitchens$SheetReader", name := "greens", desc := "()I" } : Jvm.MethodName)) ∈ xT := xT_in 962 (by decide +kernel) rfl
theorem tw_963 : (Jvm.Cond.selects "UnitKitchens$SheetReader" ({ cls := "UnitKitchens$SheetReader", name := "greens", desc := "()I" } : Jvm.MethodName) ({ cls := "UnitKitchens$SheetReader", name := "greens", desc := "()I" } : Jvm.MethodName)) ∈ xT := xT_in 963 (by decide +kernel) rfl
theorem tw_964 : (Jvm.Cond.code ({ cls := "UnitKitchens$SheetReader", name := "greens", desc := "()I" } : Jvm.MethodName) prog_7_method_4_code (1 : Nat) (Option.some Jvm.ClassFile.FieldType.int)) ∈ xT := xT_in 964 (by decide +kernel) rfl
theorem tw_965 : (Jvm.Cond.methodLink "UnitKitchens$SheetReader" (22 : Nat) ({ cls := "java/lang/Math", name := "max", desc := "(II)I" } : Jvm.MethodName)) ∈ xT := xT_in 965 (by decide +kernel) rfl
theorem tw_966 : (Jvm.Cond.methodLink "UnitKitchens" (345 : Nat) ({ cls := "UnitKitchens$SheetReader", name := "people", desc := "()I" } : Jvm.MethodName)) ∈ xT := xT_in 966 (by decide +kernel) rfl
theorem tw_967 : (Jvm.Cond.instanceMethod ({ cls := "UnitKitchens$SheetReader", name := "people", desc := "()I" } : Jvm.MethodName)) ∈ xT := xT_in 967 (by decide +kernel) rfl
theorem tw_968 : (Jvm.Cond.selects "UnitKitchens$SheetReader" ({ cls := "UnitKitchens$SheetReader", name := "people", desc := "()I" } : Jvm.MethodName) ({ cls := "UnitKitchens$SheetReader", name := "people", desc := "()I" } : Jvm.MethodName)) ∈ xT := xT_in 968 (by decide +kernel) rfl
theorem tw_969 : (Jvm.Cond.code ({ cls := "UnitKitchens$SheetReader", name := "people", desc := "()I" } : Jvm.MethodName) prog_7_method_3_code (1 : Nat) (Option.some Jvm.ClassFile.FieldType.int)) ∈ xT := xT_in 969 (by decide +kernel) rfl
theorem tw_970 : (Jvm.Cond.methodLink "UnitKitchens" (348 : Nat) ({ cls := "UnitKitchens$SheetReader", name := "call", desc := "()I" } : Jvm.MethodName)) ∈ xT := xT_in 970 (by decide +kernel) rfl
theorem tw_971 : (Jvm.Cond.instanceMethod ({ cls := "UnitKitchens$SheetReader", name := "call", desc := "()I" } : Jvm.MethodName)) ∈ xT := xT_in 971 (by decide +kernel) rfl
theorem tw_972 : (Jvm.Cond.selects "UnitKitchens$SheetReader" ({ cls := "UnitKitchens$SheetReader", name := "call", desc := "()I" } : Jvm.MethodName) ({ cls := "UnitKitchens$SheetReader", name := "call", desc := "()I" } : Jvm.MethodName)) ∈ xT := xT_in 972 (by decide +kernel) rfl
theorem tw_973 : (Jvm.Cond.code ({ cls := "UnitKitchens$SheetReader", name := "call", desc := "()I" } : Jvm.MethodName) prog_7_method_5_code (1 : Nat) (Option.some Jvm.ClassFile.FieldType.int)) ∈ xT := xT_in 973 (by decide +kernel) rfl
theorem tw_974 : (Jvm.Cond.methodLink "UnitKitchens" (351 : Nat) ({ cls := "UnitKitchens$SheetReader", name := "interval", desc := "()I" } : Jvm.MethodName)) ∈ xT := xT_in 974 (by decide +kernel) rfl
theorem tw_975 : (Jvm.Cond.instanceMethod ({ cls := "UnitKitchens$SheetReader", name := "interval", desc := "()I" } : Jvm.MethodName)) ∈ xT := xT_in 975 (by decide +kernel) rfl
theorem tw_976 : (Jvm.Cond.selects "UnitKitchens$SheetReader" ({ cls := "UnitKitchens$SheetReader", name := "interval", desc := "()I" } : Jvm.MethodName) ({ cls := "UnitKitchens$SheetReader", name := "interval", desc := "()I" } : Jvm.MethodName)) ∈ xT := xT_in 976 (by decide +kernel) rfl
theorem tw_977 : (Jvm.Cond.code ({ cls := "UnitKitchens$SheetReader", name := "interval", desc := "()I" } : Jvm.MethodName) prog_7_method_6_code (1 : Nat) (Option.some Jvm.ClassFile.FieldType.int)) ∈ xT := xT_in 977 (by decide +kernel) rfl
theorem tw_978 : (Jvm.Cond.methodLink "UnitKitchensLaw" (182 : Nat) ({ cls := "UnitKitchensLaw", name := "undo", desc := "(LUnitKitchens;[J)I" } : Jvm.MethodName)) ∈ xT := xT_in 978 (by decide +kernel) rfl
theorem tw_979 : (Jvm.Cond.static ({ cls := "UnitKitchensLaw", name := "undo", desc := "(LUnitKitchens;[J)I" } : Jvm.MethodName)) ∈ xT := xT_in 979 (by decide +kernel) rfl
theorem tw_981 : (Jvm.Cond.methodLink "UnitKitchensLaw" (72 : Nat) ({ cls := "UnitKitchens", name := "undo", desc := "()I" } : Jvm.MethodName)) ∈ xT := xT_in 981 (by decide +kernel) rfl
theorem tw_982 : (Jvm.Cond.instanceMethod ({ cls := "UnitKitchens", name := "undo", desc := "()I" } : Jvm.MethodName)) ∈ xT := xT_in 982 (by decide +kernel) rfl
theorem tw_983 : (Jvm.Cond.selects "UnitKitchens" ({ cls := "UnitKitchens", name := "undo", desc := "()I" } : Jvm.MethodName) ({ cls := "UnitKitchens", name := "undo", desc := "()I" } : Jvm.MethodName)) ∈ xT := xT_in 983 (by decide +kernel) rfl
theorem tw_984 : (Jvm.Cond.code ({ cls := "UnitKitchens", name := "undo", desc := "()I" } : Jvm.MethodName) prog_1_method_21_code (1 : Nat) (Option.some Jvm.ClassFile.FieldType.int)) ∈ xT := xT_in 984 (by decide +kernel) rfl
theorem tw_985 : (Jvm.Cond.methodLink "UnitKitchens" (226 : Nat) ({ cls := "UnitKitchens$SavedFilms", name := "restore", desc := "(LUnitKitchens$Film;)V" } : Jvm.MethodName)) ∈ xT := xT_in 985 (by decide +kernel) rfl
theorem tw_986 : (Jvm.Cond.instanceMethod ({ cls := "UnitKitchens$SavedFilms", name := "restore", desc := "(LUnitKitchens$Film;)V" } : Jvm.MethodName)) ∈ xT := xT_in 986 (by decide +kernel) rfl
theorem tw_987 : (Jvm.Cond.selects "UnitKitchens$SavedFilms" ({ cls := "UnitKitchens$SavedFilms", name := "restore", desc := "(LUnitKitchens$Film;)V" } : Jvm.MethodName) ({ cls := "UnitKitchens$SavedFilms", name := "restore", desc := "(LUnitKitchens$Film;)V" } : Jvm.MethodName)) ∈ xT := xT_in 987 (by decide +kernel) rfl
theorem tw_988 : (Jvm.Cond.code ({ cls := "UnitKitchens$SavedFilms", name := "restore", desc := "(LUnitKitchens$Film;)V" } : Jvm.MethodName) prog_6_method_3_code (2 : Nat) (Option.none : Option Jvm.ClassFile.FieldType)) ∈ xT := xT_in 988 (by decide +kernel) rfl
theorem tw_989 : (Jvm.Cond.methodLink "UnitKitchensLaw" (185 : Nat) ({ cls := "UnitKitchensLaw", name := "place", desc := "(LUnitKitchens;II[J)I" } : Jvm.MethodName)) ∈ xT := xT_in 989 (by decide +kernel) rfl
theorem tw_990 : (Jvm.Cond.static ({ cls := "UnitKitchensLaw", name := "place", desc := "(LUnitKitchens;II[J)I" } : Jvm.MethodName)) ∈ xT := xT_in 990 (by decide +kernel) rfl
theorem tw_992 : (Jvm.Cond.methodLink "UnitKitchensLaw" (75 : Nat) ({ cls := "UnitKitchens", name := "place", desc := "(II)I" } : Jvm.MethodName)) ∈ xT := xT_in 992 (by decide +kernel) rfl
theorem tw_993 : (Jvm.Cond.methodLink "UnitKitchensLaw" (188 : Nat) ({ cls := "UnitKitchensLaw", name := "unit", desc := "(LUnitKitchens;II[J)I" } : Jvm.MethodName)) ∈ xT := xT_in 993 (by decide +kernel) rfl
theorem tw_994 : (Jvm.Cond.static ({ cls := "UnitKitchensLaw", name := "unit", desc := "(LUnitKitchens;II[J)I" } : Jvm.MethodName)) ∈ xT := xT_in 994 (by decide +kernel) rfl
theorem tw_996 : (Jvm.Cond.methodLink "UnitKitchensLaw" (78 : Nat) ({ cls := "UnitKitchens", name := "unit", desc := "(II)I" } : Jvm.MethodName)) ∈ xT := xT_in 996 (by decide +kernel) rfl
theorem tw_997 : (Jvm.Cond.methodLink "UnitKitchensLaw" (191 : Nat) ({ cls := "UnitKitchensLaw", name := "kitchen", desc := "(LUnitKitchens;II[J)I" } : Jvm.MethodName)) ∈ xT := xT_in 997 (by decide +kernel) rfl
theorem tw_998 : (Jvm.Cond.static ({ cls := "UnitKitchensLaw", name := "kitchen", desc := "(LUnitKitchens;II[J)I" } : Jvm.MethodName)) ∈ xT := xT_in 998 (by decide +kernel) rfl
theorem tw_1000 : (Jvm.Cond.methodLink "UnitKitchensLaw" (81 : Nat) ({ cls := "UnitKitchens", name := "kitchen", desc := "(II)I" } : Jvm.MethodName)) ∈ xT := xT_in 1000 (by decide +kernel) rfl
theorem tw_1001 : (Jvm.Cond.methodLink "UnitKitchensLaw" (194 : Nat) ({ cls := "UnitKitchensLaw", name := "lorry", desc := "(LUnitKitchens;II[J)I" } : Jvm.MethodName)) ∈ xT := xT_in 1001 (by decide +kernel) rfl
theorem tw_1002 : (Jvm.Cond.static ({ cls := "UnitKitchensLaw", name := "lorry", desc := "(LUnitKitchens;II[J)I" } : Jvm.MethodName)) ∈ xT := xT_in 1002 (by decide +kernel) rfl
theorem tw_1004 : (Jvm.Cond.methodLink "UnitKitchensLaw" (84 : Nat) ({ cls := "UnitKitchens", name := "lorry", desc := "(II)I" } : Jvm.MethodName)) ∈ xT := xT_in 1004 (by decide +kernel) rfl
theorem tw_1005 : (Jvm.Cond.methodLink "UnitKitchensLaw" (197 : Nat) ({ cls := "UnitKitchensLaw", name := "count", desc := "(LUnitKitchens;I[J)I" } : Jvm.MethodName)) ∈ xT := xT_in 1005 (by decide +kernel) rfl
theorem tw_1006 : (Jvm.Cond.static ({ cls := "UnitKitchensLaw", name := "count", desc := "(LUnitKitchens;I[J)I" } : Jvm.MethodName)) ∈ xT := xT_in 1006 (by decide +kernel) rfl
theorem tw_1008 : (Jvm.Cond.methodLink "UnitKitchensLaw" (87 : Nat) ({ cls := "UnitKitchens", name := "count", desc := "(I)I" } : Jvm.MethodName)) ∈ xT := xT_in 1008 (by decide +kernel) rfl
theorem tw_1009 : (Jvm.Cond.methodLink "UnitKitchensLaw" (200 : Nat) ({ cls := "UnitKitchensLaw", name := "setting", desc := "(LUnitKitchens;I[J)I" } : Jvm.MethodName)) ∈ xT := xT_in 1009 (by decide +kernel) rfl
theorem tw_1010 : (Jvm.Cond.static ({ cls := "UnitKitchensLaw", name := "setting", desc := "(LUnitKitchens;I[J)I" } : Jvm.MethodName)) ∈ xT := xT_in 1010 (by decide +kernel) rfl
theorem tw_1012 : (Jvm.Cond.methodLink "UnitKitchensLaw" (90 : Nat) ({ cls := "UnitKitchens", name := "setting", desc := "(I)I" } : Jvm.MethodName)) ∈ xT := xT_in 1012 (by decide +kernel) rfl
theorem tw_1013 : (Jvm.Cond.instanceMethod ({ cls := "UnitKitchens", name := "setting", desc := "(I)I" } : Jvm.MethodName)) ∈ xT := xT_in 1013 (by decide +kernel) rfl
theorem tw_1014 : (Jvm.Cond.selects "UnitKitchens" ({ cls := "UnitKitchens", name := "setting", desc := "(I)I" } : Jvm.MethodName) ({ cls := "UnitKitchens", name := "setting", desc := "(I)I" } : Jvm.MethodName)) ∈ xT := xT_in 1014 (by decide +kernel) rfl
theorem tw_1015 : (Jvm.Cond.code ({ cls := "UnitKitchens", name := "setting", desc := "(I)I" } : Jvm.MethodName) prog_1_method_27_code (2 : Nat) (Option.some Jvm.ClassFile.FieldType.int)) ∈ xT := xT_in 1015 (by decide +kernel) rfl
theorem tw_1016 : (Jvm.Cond.methodLink "UnitKitchensLaw" (203 : Nat) ({ cls := "UnitKitchensLaw", name := "ifPassed", desc := "(LUnitKitchens;II[J)I" } : Jvm.MethodName)) ∈ xT := xT_in 1016 (by decide +kernel) rfl
theorem tw_1017 : (Jvm.Cond.static ({ cls := "UnitKitchensLaw", name := "ifPassed", desc := "(LUnitKitchens;II[J)I" } : Jvm.MethodName)) ∈ xT := xT_in 1017 (by decide +kernel) rfl
theorem tw_1019 : (Jvm.Cond.methodLink "UnitKitchensLaw" (93 : Nat) ({ cls := "UnitKitchens", name := "ifPassed", desc := "(II)I" } : Jvm.MethodName)) ∈ xT := xT_in 1019 (by decide +kernel) rfl
theorem tw_1020 : (Jvm.Cond.instanceMethod ({ cls := "UnitKitchens", name := "ifPassed", desc := "(II)I" } : Jvm.MethodName)) ∈ xT := xT_in 1020 (by decide +kernel) rfl
theorem tw_1021 : (Jvm.Cond.selects "UnitKitchens" ({ cls := "UnitKitchens", name := "ifPassed", desc := "(II)I" } : Jvm.MethodName) ({ cls := "UnitKitchens", name := "ifPassed", desc := "(II)I" } : Jvm.MethodName)) ∈ xT := xT_in 1021 (by decide +kernel) rfl
theorem tw_1022 : (Jvm.Cond.code ({ cls := "UnitKitchens", name := "ifPassed", desc := "(II)I" } : Jvm.MethodName) prog_1_method_28_code (3 : Nat) (Option.some Jvm.ClassFile.FieldType.int)) ∈ xT := xT_in 1022 (by decide +kernel) rfl
theorem tw_1023 : (Jvm.Cond.methodLink "UnitKitchensLaw" (206 : Nat) ({ cls := "UnitKitchensLaw", name := "callsIn", desc := "(LUnitKitchens;II[J)I" } : Jvm.MethodName)) ∈ xT := xT_in 1023 (by decide +kernel) rfl
theorem tw_1024 : (Jvm.Cond.static ({ cls := "UnitKitchensLaw", name := "callsIn", desc := "(LUnitKitchens;II[J)I" } : Jvm.MethodName)) ∈ xT := xT_in 1024 (by decide +kernel) rfl
theorem tw_1026 : (Jvm.Cond.methodLink "UnitKitchensLaw" (96 : Nat) ({ cls := "UnitKitchens", name := "callsIn", desc := "(II)I" } : Jvm.MethodName)) ∈ xT := xT_in 1026 (by decide +kernel) rfl
theorem tw_1027 : (Jvm.Cond.methodLink "UnitKitchensLaw" (209 : Nat) ({ cls := "UnitKitchensLaw", name := "canCook", desc := "(LUnitKitchens;II[J)I" } : Jvm.MethodName)) ∈ xT := xT_in 1027 (by decide +kernel) rfl
theorem tw_1028 : (Jvm.Cond.static ({ cls := "UnitKitchensLaw", name := "canCook", desc := "(LUnitKitchens;II[J)I" } : Jvm.MethodName)) ∈ xT := xT_in 1028 (by decide +kernel) rfl
theorem tw_1030 : (Jvm.Cond.methodLink "UnitKitchensLaw" (99 : Nat) ({ cls := "UnitKitchens", name := "canCook", desc := "(II)I" } : Jvm.MethodName)) ∈ xT := xT_in 1030 (by decide +kernel) rfl
theorem tw_1031 : (Jvm.Cond.methodLink "UnitKitchensLaw" (212 : Nat) ({ cls := "UnitKitchensLaw", name := "bestLorry", desc := "(LUnitKitchens;I[J)I" } : Jvm.MethodName)) ∈ xT := xT_in 1031 (by decide +kernel) rfl
theorem tw_1032 : (Jvm.Cond.static ({ cls := "UnitKitchensLaw", name := "bestLorry", desc := "(LUnitKitchens;I[J)I" } : Jvm.MethodName)) ∈ xT := xT_in 1032 (by decide +kernel) rfl
theorem tw_1034 : (Jvm.Cond.methodLink "UnitKitchensLaw" (102 : Nat) ({ cls := "UnitKitchens", name := "bestLorry", desc := "(I)I" } : Jvm.MethodName)) ∈ xT := xT_in 1034 (by decide +kernel) rfl
theorem tw_1035 : (Jvm.Cond.methodLink "UnitKitchensLaw" (215 : Nat) ({ cls := "UnitKitchensLaw", name := "enoughGrace", desc := "(LUnitKitchens;I[J)I" } : Jvm.MethodName)) ∈ xT := xT_in 1035 (by decide +kernel) rfl
theorem tw_1036 : (Jvm.Cond.static ({ cls := "UnitKitchensLaw", name := "enoughGrace", desc := "(LUnitKitchens;I[J)I" } : Jvm.MethodName)) ∈ xT := xT_in 1036 (by decide +kernel) rfl
theorem tw_1038 : (Jvm.Cond.methodLink "UnitKitchensLaw" (105 : Nat) ({ cls := "UnitKitchens", name := "enoughGrace", desc := "(I)I" } : Jvm.MethodName)) ∈ xT := xT_in 1038 (by decide +kernel) rfl
theorem tw_1039 : (Jvm.Cond.instanceMethod ({ cls := "UnitKitchens", name := "enoughGrace", desc := "(I)I" } : Jvm.MethodName)) ∈ xT := xT_in 1039 (by decide +kernel) rfl
theorem tw_1040 : (Jvm.Cond.selects "UnitKitchens" ({ cls := "UnitKitchens", name := "enoughGrace", desc := "(I)I" } : Jvm.MethodName) ({ cls := "UnitKitchens", name := "enoughGrace", desc := "(I)I" } : Jvm.MethodName)) ∈ xT := xT_in 1040 (by decide +kernel) rfl
theorem tw_1041 : (Jvm.Cond.code ({ cls := "UnitKitchens", name := "enoughGrace", desc := "(I)I" } : Jvm.MethodName) prog_1_method_32_code (2 : Nat) (Option.some Jvm.ClassFile.FieldType.int)) ∈ xT := xT_in 1041 (by decide +kernel) rfl
theorem tw_1042 : (Jvm.Cond.classLink "UnitKitchensLaw" (109 : Nat) "UnitKitchensModel") ∈ xT := xT_in 1042 (by decide +kernel) rfl
theorem tw_1043 : (Jvm.Cond.instantiable "UnitKitchensModel" (14 : Nat)) ∈ xT := xT_in 1043 (by decide +kernel) rfl
theorem tw_1044 : (Jvm.Cond.methodLink "UnitKitchensLaw" (111 : Nat) ({ cls := "UnitKitchensModel", name := "<init>", desc := "()V" } : Jvm.MethodName)) ∈ xT := xT_in 1044 (by decide +kernel) rfl
theorem tw_1045 : (Jvm.Cond.instanceMethod ({ cls := "UnitKitchensModel", name := "<init>", desc := "()V" } : Jvm.MethodName)) ∈ xT := xT_in 1045 (by decide +kernel) rfl
theorem tw_1046 : (Jvm.Cond.code ({ cls := "UnitKitchensModel", name := "<init>", desc := "()V" } : Jvm.MethodName) prog_10_method_1_code (1 : Nat) (Option.none : Option Jvm.ClassFile.FieldType)) ∈ xT := xT_in 1046 (by decide +kernel) rfl
theorem tw_1047 : (Jvm.Cond.methodLink "UnitKitchensModel" (1 : Nat) ({ cls := "java/lang/Object", name := "<init>", desc := "()V" } : Jvm.MethodName)) ∈ xT := xT_in 1047 (by decide +kernel) rfl
theorem tw_1048 : (Jvm.Cond.fieldLink "UnitKitchensModel" (7 : Nat) "UnitKitchensModel" "z" "[I") ∈ xT := xT_in 1048 (by decide +kernel) rfl
theorem tw_1049 : (Jvm.Cond.fieldLink "UnitKitchensModel" (29 : Nat) "UnitKitchensModel" "states" "I") ∈ xT := xT_in 1049 (by decide +kernel) rfl
theorem tw_1050 : (Jvm.Cond.fieldLink "UnitKitchensModel" (13 : Nat) "UnitKitchensModel" "history" "[I") ∈ xT := xT_in 1050 (by decide +kernel) rfl
theorem tw_1051 : (Jvm.Cond.fieldLink "UnitKitchensModel" (165 : Nat) "UnitKitchensModel" "length" "I") ∈ xT := xT_in 1051 (by decide +kernel) rfl
theorem tw_1052 : (Jvm.Cond.fieldLink "UnitKitchensModel" (16 : Nat) "UnitKitchensModel" "text" "[I") ∈ xT := xT_in 1052 (by decide +kernel) rfl
theorem tw_1053 : (Jvm.Cond.fieldLink "UnitKitchensModel" (25 : Nat) "UnitKitchensModel" "thrown" "I") ∈ xT := xT_in 1053 (by decide +kernel) rfl
theorem tw_1054 : (Jvm.Cond.fieldLink "UnitKitchensModel" (131 : Nat) "UnitKitchensModel" "latest" "I") ∈ xT := xT_in 1054 (by decide +kernel) rfl
theorem tw_1055 : (Jvm.Cond.fieldLink "UnitKitchensModel" (134 : Nat) "UnitKitchensModel" "growing" "I") ∈ xT := xT_in 1055 (by decide +kernel) rfl
theorem tw_1056 : (Jvm.Cond.fieldLink "UnitKitchensModel" (19 : Nat) "UnitKitchensModel" "parts" "[I") ∈ xT := xT_in 1056 (by decide +kernel) rfl
theorem tw_1057 : (Jvm.Cond.fieldLink "UnitKitchensModel" (177 : Nat) "UnitKitchensModel" "read" "I") ∈ xT := xT_in 1057 (by decide +kernel) rfl
theorem tw_1058 : (Jvm.Cond.fieldLink "UnitKitchensModel" (168 : Nat) "UnitKitchensModel" "number" "I") ∈ xT := xT_in 1058 (by decide +kernel) rfl
theorem tw_1059 : (Jvm.Cond.fieldLink "UnitKitchensModel" (171 : Nat) "UnitKitchensModel" "due" "I") ∈ xT := xT_in 1059 (by decide +kernel) rfl
theorem tw_1060 : (Jvm.Cond.fieldLink "UnitKitchensModel" (22 : Nat) "UnitKitchensModel" "kept" "[I") ∈ xT := xT_in 1060 (by decide +kernel) rfl
theorem tw_1061 : (Jvm.Cond.fieldLink "UnitKitchensModel" (248 : Nat) "UnitKitchensModel" "hash" "J") ∈ xT := xT_in 1061 (by decide +kernel) rfl
theorem tw_1062 : (Jvm.Cond.laysFinal "UnitKitchensModel" "UnitKitchensModel" "z" "[I") ∈ xT := xT_in 1062 (by decide +kernel) rfl
theorem tw_1064 : (Jvm.Cond.lays "UnitKitchensModel" "UnitKitchensModel" "states" "I") ∈ xT := xT_in 1064 (by decide +kernel) rfl
theorem tw_1066 : (Jvm.Cond.laysFinal "UnitKitchensModel" "UnitKitchensModel" "history" "[I") ∈ xT := xT_in 1066 (by decide +kernel) rfl
theorem tw_1068 : (Jvm.Cond.lays "UnitKitchensModel" "UnitKitchensModel" "length" "I") ∈ xT := xT_in 1068 (by decide +kernel) rfl
theorem tw_1070 : (Jvm.Cond.laysFinal "UnitKitchensModel" "UnitKitchensModel" "text" "[I") ∈ xT := xT_in 1070 (by decide +kernel) rfl
theorem tw_1072 : (Jvm.Cond.lays "UnitKitchensModel" "UnitKitchensModel" "thrown" "I") ∈ xT := xT_in 1072 (by decide +kernel) rfl
theorem tw_1074 : (Jvm.Cond.lays "UnitKitchensModel" "UnitKitchensModel" "latest" "I") ∈ xT := xT_in 1074 (by decide +kernel) rfl
theorem tw_1076 : (Jvm.Cond.lays "UnitKitchensModel" "UnitKitchensModel" "growing" "I") ∈ xT := xT_in 1076 (by decide +kernel) rfl
theorem tw_1078 : (Jvm.Cond.laysFinal "UnitKitchensModel" "UnitKitchensModel" "parts" "[I") ∈ xT := xT_in 1078 (by decide +kernel) rfl
theorem tw_1080 : (Jvm.Cond.lays "UnitKitchensModel" "UnitKitchensModel" "read" "I") ∈ xT := xT_in 1080 (by decide +kernel) rfl
theorem tw_1082 : (Jvm.Cond.lays "UnitKitchensModel" "UnitKitchensModel" "number" "I") ∈ xT := xT_in 1082 (by decide +kernel) rfl
theorem tw_1084 : (Jvm.Cond.lays "UnitKitchensModel" "UnitKitchensModel" "due" "I") ∈ xT := xT_in 1084 (by decide +kernel) rfl
theorem tw_1086 : (Jvm.Cond.laysFinal "UnitKitchensModel" "UnitKitchensModel" "kept" "[I") ∈ xT := xT_in 1086 (by decide +kernel) rfl
theorem tw_1088 : (Jvm.Cond.lays "UnitKitchensModel" "UnitKitchensModel" "hash" "J") ∈ xT := xT_in 1088 (by decide +kernel) rfl
theorem tw_1091 : (Jvm.Cond.methodLink "UnitKitchensLaw" (118 : Nat) ({ cls := "UnitKitchensModel", name := "thrown", desc := "()I" } : Jvm.MethodName)) ∈ xT := xT_in 1091 (by decide +kernel) rfl
theorem tw_1092 : (Jvm.Cond.instanceMethod ({ cls := "UnitKitchensModel", name := "thrown", desc := "()I" } : Jvm.MethodName)) ∈ xT := xT_in 1092 (by decide +kernel) rfl
theorem tw_1093 : (Jvm.Cond.selects "UnitKitchensModel" ({ cls := "UnitKitchensModel", name := "thrown", desc := "()I" } : Jvm.MethodName) ({ cls := "UnitKitchensModel", name := "thrown", desc := "()I" } : Jvm.MethodName)) ∈ xT := xT_in 1093 (by decide +kernel) rfl
theorem tw_1094 : (Jvm.Cond.code ({ cls := "UnitKitchensModel", name := "thrown", desc := "()I" } : Jvm.MethodName) prog_10_method_2_code (1 : Nat) (Option.some Jvm.ClassFile.FieldType.int)) ∈ xT := xT_in 1094 (by decide +kernel) rfl
theorem tw_1095 : (Jvm.Cond.methodLink "UnitKitchensLaw" (117 : Nat) ({ cls := "UnitKitchensModel", name := "addPlace", desc := "(II)I" } : Jvm.MethodName)) ∈ xT := xT_in 1095 (by decide +kernel) rfl
theorem tw_1096 : (Jvm.Cond.instanceMethod ({ cls := "UnitKitchensModel", name := "addPlace", desc := "(II)I" } : Jvm.MethodName)) ∈ xT := xT_in 1096 (by decide +kernel) rfl
theorem tw_1097 : (Jvm.Cond.selects "UnitKitchensModel" ({ cls := "UnitKitchensModel", name := "addPlace", desc := "(II)I" } : Jvm.MethodName) ({ cls := "UnitKitchensModel", name := "addPlace", desc := "(II)I" } : Jvm.MethodName)) ∈ xT := xT_in 1097 (by decide +kernel) rfl
theorem tw_1098 : (Jvm.Cond.code ({ cls := "UnitKitchensModel", name := "addPlace", desc := "(II)I" } : Jvm.MethodName) prog_10_method_19_code (3 : Nat) (Option.some Jvm.ClassFile.FieldType.int)) ∈ xT := xT_in 1098 (by decide +kernel) rfl
theorem tw_1099 : (Jvm.Cond.methodLink "UnitKitchensModel" (32 : Nat) ({ cls := "UnitKitchensModel", name := "within", desc := "(III)Z" } : Jvm.MethodName)) ∈ xT := xT_in 1099 (by decide +kernel) rfl
theorem tw_1100 : (Jvm.Cond.static ({ cls := "UnitKitchensModel", name := "within", desc := "(III)Z" } : Jvm.MethodName)) ∈ xT := xT_in 1100 (by decide +kernel) rfl
theorem tw_1101 : (Jvm.Cond.code ({ cls := "UnitKitchensModel", name := "within", desc := "(III)Z" } : Jvm.MethodName) prog_10_method_3_code (3 : Nat) (Option.some Jvm.ClassFile.FieldType.boolean)) ∈ xT := xT_in 1101 (by decide +kernel) rfl
theorem tw_1102 : (Jvm.Cond.methodLink "UnitKitchensModel" (56 : Nat) ({ cls := "UnitKitchensModel", name := "save", desc := "()V" } : Jvm.MethodName)) ∈ xT := xT_in 1102 (by decide +kernel) rfl
theorem tw_1104 : (Jvm.Cond.instanceMethod ({ cls := "UnitKitchensModel", name := "save", desc := "()V" } : Jvm.MethodName)) ∈ xT := xT_in 1104 (by decide +kernel) rfl
theorem tw_1105 : (Jvm.Cond.code ({ cls := "UnitKitchensModel", name := "save", desc := "()V" } : Jvm.MethodName) prog_10_method_4_code (2 : Nat) (Option.none : Option Jvm.ClassFile.FieldType)) ∈ xT := xT_in 1105 (by decide +kernel) rfl
theorem tw_1106 : (Jvm.Cond.methodLink "UnitKitchensLaw" (124 : Nat) ({ cls := "UnitKitchensModel", name := "addKitchen", desc := "(I)I" } : Jvm.MethodName)) ∈ xT := xT_in 1106 (by decide +kernel) rfl
theorem tw_1107 : (Jvm.Cond.instanceMethod ({ cls := "UnitKitchensModel", name := "addKitchen", desc := "(I)I" } : Jvm.MethodName)) ∈ xT := xT_in 1107 (by decide +kernel) rfl
theorem tw_1108 : (Jvm.Cond.selects "UnitKitchensModel" ({ cls := "UnitKitchensModel", name := "addKitchen", desc := "(I)I" } : Jvm.MethodName) ({ cls := "UnitKitchensModel", name := "addKitchen", desc := "(I)I" } : Jvm.MethodName)) ∈ xT := xT_in 1108 (by decide +kernel) rfl
theorem tw_1109 : (Jvm.Cond.code ({ cls := "UnitKitchensModel", name := "addKitchen", desc := "(I)I" } : Jvm.MethodName) prog_10_method_20_code (2 : Nat) (Option.some Jvm.ClassFile.FieldType.int)) ∈ xT := xT_in 1109 (by decide +kernel) rfl
theorem tw_1110 : (Jvm.Cond.methodLink "UnitKitchensModel" (59 : Nat) ({ cls := "UnitKitchensModel", name := "isPlace", desc := "(I)Z" } : Jvm.MethodName)) ∈ xT := xT_in 1110 (by decide +kernel) rfl
theorem tw_1112 : (Jvm.Cond.instanceMethod ({ cls := "UnitKitchensModel", name := "isPlace", desc := "(I)Z" } : Jvm.MethodName)) ∈ xT := xT_in 1112 (by decide +kernel) rfl
theorem tw_1113 : (Jvm.Cond.code ({ cls := "UnitKitchensModel", name := "isPlace", desc := "(I)Z" } : Jvm.MethodName) prog_10_method_5_code (2 : Nat) (Option.some Jvm.ClassFile.FieldType.boolean)) ∈ xT := xT_in 1113 (by decide +kernel) rfl
theorem tw_1114 : (Jvm.Cond.methodLink "UnitKitchensLaw" (127 : Nat) ({ cls := "UnitKitchensModel", name := "addLorry", desc := "(I)I" } : Jvm.MethodName)) ∈ xT := xT_in 1114 (by decide +kernel) rfl
theorem tw_1115 : (Jvm.Cond.instanceMethod ({ cls := "UnitKitchensModel", name := "addLorry", desc := "(I)I" } : Jvm.MethodName)) ∈ xT := xT_in 1115 (by decide +kernel) rfl
theorem tw_1116 : (Jvm.Cond.selects "UnitKitchensModel" ({ cls := "UnitKitchensModel", name := "addLorry", desc := "(I)I" } : Jvm.MethodName) ({ cls := "UnitKitchensModel", name := "addLorry", desc := "(I)I" } : Jvm.MethodName)) ∈ xT := xT_in 1116 (by decide +kernel) rfl
theorem tw_1117 : (Jvm.Cond.code ({ cls := "UnitKitchensModel", name := "addLorry", desc := "(I)I" } : Jvm.MethodName) prog_10_method_21_code (2 : Nat) (Option.some Jvm.ClassFile.FieldType.int)) ∈ xT := xT_in 1117 (by decide +kernel) rfl
theorem tw_1118 : (Jvm.Cond.methodLink "UnitKitchensLaw" (130 : Nat) ({ cls := "UnitKitchensModel", name := "set", desc := "(II)I" } : Jvm.MethodName)) ∈ xT := xT_in 1118 (by decide +kernel) rfl
theorem tw_1119 : (Jvm.Cond.instanceMethod ({ cls := "UnitKitchensModel", name := "set", desc := "(II)I" } : Jvm.MethodName)) ∈ xT := xT_in 1119 (by decide +kernel) rfl
theorem tw_1120 : (Jvm.Cond.selects "UnitKitchensModel" ({ cls := "UnitKitchensModel", name := "set", desc := "(II)I" } : Jvm.MethodName) ({ cls := "UnitKitchensModel", name := "set", desc := "(II)I" } : Jvm.MethodName)) ∈ xT := xT_in 1120 (by decide +kernel) rfl
theorem tw_1121 : (Jvm.Cond.code ({ cls := "UnitKitchensModel", name := "set", desc := "(II)I" } : Jvm.MethodName) prog_10_method_24_code (4 : Nat) (Option.some Jvm.ClassFile.FieldType.int)) ∈ xT := xT_in 1121 (by decide +kernel) rfl
theorem tw_1122 : (Jvm.Cond.methodLink "UnitKitchensModel" (62 : Nat) ({ cls := "UnitKitchensModel", name := "isSetting", desc := "(I)Z" } : Jvm.MethodName)) ∈ xT := xT_in 1122 (by decide +kernel) rfl
theorem tw_1123 : (Jvm.Cond.static ({ cls := "UnitKitchensModel", name := "isSetting", desc := "(I)Z" } : Jvm.MethodName)) ∈ xT := xT_in 1123 (by decide +kernel) rfl
theorem tw_1124 : (Jvm.Cond.code ({ cls := "UnitKitchensModel", name := "isSetting", desc := "(I)Z" } : Jvm.MethodName) prog_10_method_22_code (1 : Nat) (Option.some Jvm.ClassFile.FieldType.boolean)) ∈ xT := xT_in 1124 (by decide +kernel) rfl
theorem tw_1125 : (Jvm.Cond.methodLink "UnitKitchensModel" (65 : Nat) ({ cls := "UnitKitchensModel", name := "isValue", desc := "(II)Z" } : Jvm.MethodName)) ∈ xT := xT_in 1125 (by decide +kernel) rfl
theorem tw_1126 : (Jvm.Cond.static ({ cls := "UnitKitchensModel", name := "isValue", desc := "(II)Z" } : Jvm.MethodName)) ∈ xT := xT_in 1126 (by decide +kernel) rfl
theorem tw_1127 : (Jvm.Cond.code ({ cls := "UnitKitchensModel", name := "isValue", desc := "(II)Z" } : Jvm.MethodName) prog_10_method_23_code (2 : Nat) (Option.some Jvm.ClassFile.FieldType.boolean)) ∈ xT := xT_in 1127 (by decide +kernel) rfl
theorem tw_1128 : (Jvm.Cond.methodLink "UnitKitchensLaw" (134 : Nat) ({ cls := "UnitKitchensModel", name := "stock", desc := "(III)I" } : Jvm.MethodName)) ∈ xT := xT_in 1128 (by decide +kernel) rfl
theorem tw_1129 : (Jvm.Cond.instanceMethod ({ cls := "UnitKitchensModel", name := "stock", desc := "(III)I" } : Jvm.MethodName)) ∈ xT := xT_in 1129 (by decide +kernel) rfl
theorem tw_1130 : (Jvm.Cond.selects "UnitKitchensModel" ({ cls := "UnitKitchensModel", name := "stock", desc := "(III)I" } : Jvm.MethodName) ({ cls := "UnitKitchensModel", name := "stock", desc := "(III)I" } : Jvm.MethodName)) ∈ xT := xT_in 1130 (by decide +kernel) rfl
theorem tw_1131 : (Jvm.Cond.code ({ cls := "UnitKitchensModel", name := "stock", desc := "(III)I" } : Jvm.MethodName) prog_10_method_26_code (4 : Nat) (Option.some Jvm.ClassFile.FieldType.int)) ∈ xT := xT_in 1131 (by decide +kernel) rfl
theorem tw_1132 : (Jvm.Cond.methodLink "UnitKitchensModel" (69 : Nat) ({ cls := "UnitKitchensModel", name := "isKitchen", desc := "(I)Z" } : Jvm.MethodName)) ∈ xT := xT_in 1132 (by decide +kernel) rfl
theorem tw_1134 : (Jvm.Cond.instanceMethod ({ cls := "UnitKitchensModel", name := "isKitchen", desc := "(I)Z" } : Jvm.MethodName)) ∈ xT := xT_in 1134 (by decide +kernel) rfl
theorem tw_1135 : (Jvm.Cond.code ({ cls := "UnitKitchensModel", name := "isKitchen", desc := "(I)Z" } : Jvm.MethodName) prog_10_method_6_code (2 : Nat) (Option.some Jvm.ClassFile.FieldType.boolean)) ∈ xT := xT_in 1135 (by decide +kernel) rfl
theorem tw_1136 : (Jvm.Cond.methodLink "UnitKitchensModel" (72 : Nat) ({ cls := "UnitKitchensModel", name := "isKind", desc := "(I)Z" } : Jvm.MethodName)) ∈ xT := xT_in 1136 (by decide +kernel) rfl
theorem tw_1137 : (Jvm.Cond.static ({ cls := "UnitKitchensModel", name := "isKind", desc := "(I)Z" } : Jvm.MethodName)) ∈ xT := xT_in 1137 (by decide +kernel) rfl
theorem tw_1138 : (Jvm.Cond.code ({ cls := "UnitKitchensModel", name := "isKind", desc := "(I)Z" } : Jvm.MethodName) prog_10_method_25_code (1 : Nat) (Option.some Jvm.ClassFile.FieldType.boolean)) ∈ xT := xT_in 1138 (by decide +kernel) rfl
theorem tw_1139 : (Jvm.Cond.methodLink "UnitKitchensLaw" (137 : Nat) ({ cls := "UnitKitchensModel", name := "cook", desc := "(III)I" } : Jvm.MethodName)) ∈ xT := xT_in 1139 (by decide +kernel) rfl
theorem tw_1140 : (Jvm.Cond.instanceMethod ({ cls := "UnitKitchensModel", name := "cook", desc := "(III)I" } : Jvm.MethodName)) ∈ xT := xT_in 1140 (by decide +kernel) rfl
theorem tw_1141 : (Jvm.Cond.selects "UnitKitchensModel" ({ cls := "UnitKitchensModel", name := "cook", desc := "(III)I" } : Jvm.MethodName) ({ cls := "UnitKitchensModel", name := "cook", desc := "(III)I" } : Jvm.MethodName)) ∈ xT := xT_in 1141 (by decide +kernel) rfl
theorem tw_1142 : (Jvm.Cond.code ({ cls := "UnitKitchensModel", name := "cook", desc := "(III)I" } : Jvm.MethodName) prog_10_method_29_code (5 : Nat) (Option.some Jvm.ClassFile.FieldType.int)) ∈ xT := xT_in 1142 (by decide +kernel) rfl
theorem tw_1143 : (Jvm.Cond.methodLink "UnitKitchensModel" (78 : Nat) ({ cls := "UnitKitchensModel", name := "enoughFor", desc := "(II)I" } : Jvm.MethodName)) ∈ xT := xT_in 1143 (by decide +kernel) rfl
theorem tw_1145 : (Jvm.Cond.instanceMethod ({ cls := "UnitKitchensModel", name := "enoughFor", desc := "(II)I" } : Jvm.MethodName)) ∈ xT := xT_in 1145 (by decide +kernel) rfl
theorem tw_1146 : (Jvm.Cond.code ({ cls := "UnitKitchensModel", name := "enoughFor", desc := "(II)I" } : Jvm.MethodName) prog_10_method_28_code (7 : Nat) (Option.some Jvm.ClassFile.FieldType.int)) ∈ xT := xT_in 1146 (by decide +kernel) rfl
theorem tw_1147 : (Jvm.Cond.methodLink "UnitKitchensModel" (75 : Nat) ({ cls := "UnitKitchensModel", name := "needs", desc := "(II)I" } : Jvm.MethodName)) ∈ xT := xT_in 1147 (by decide +kernel) rfl
theorem tw_1148 : (Jvm.Cond.static ({ cls := "UnitKitchensModel", name := "needs", desc := "(II)I" } : Jvm.MethodName)) ∈ xT := xT_in 1148 (by decide +kernel) rfl
theorem tw_1149 : (Jvm.Cond.code ({ cls := "UnitKitchensModel", name := "needs", desc := "(II)I" } : Jvm.MethodName) prog_10_method_27_code (2 : Nat) (Option.some Jvm.ClassFile.FieldType.int)) ∈ xT := xT_in 1149 (by decide +kernel) rfl
theorem tw_1150 : (Jvm.Cond.methodLink "UnitKitchensLaw" (141 : Nat) ({ cls := "UnitKitchensModel", name := "load", desc := "(IIII)I" } : Jvm.MethodName)) ∈ xT := xT_in 1150 (by decide +kernel) rfl
theorem tw_1151 : (Jvm.Cond.instanceMethod ({ cls := "UnitKitchensModel", name := "load", desc := "(IIII)I" } : Jvm.MethodName)) ∈ xT := xT_in 1151 (by decide +kernel) rfl
theorem tw_1152 : (Jvm.Cond.selects "UnitKitchensModel" ({ cls := "UnitKitchensModel", name := "load", desc := "(IIII)I" } : Jvm.MethodName) ({ cls := "UnitKitchensModel", name := "load", desc := "(IIII)I" } : Jvm.MethodName)) ∈ xT := xT_in 1152 (by decide +kernel) rfl
theorem tw_1153 : (Jvm.Cond.code ({ cls := "UnitKitchensModel", name := "load", desc := "(IIII)I" } : Jvm.MethodName) prog_10_method_30_code (9 : Nat) (Option.some Jvm.ClassFile.FieldType.int)) ∈ xT := xT_in 1153 (by decide +kernel) rfl
theorem tw_1154 : (Jvm.Cond.methodLink "UnitKitchensModel" (81 : Nat) ({ cls := "UnitKitchensModel", name := "isLorry", desc := "(I)Z" } : Jvm.MethodName)) ∈ xT := xT_in 1154 (by decide +kernel) rfl
theorem tw_1156 : (Jvm.Cond.instanceMethod ({ cls := "UnitKitchensModel", name := "isLorry", desc := "(I)Z" } : Jvm.MethodName)) ∈ xT := xT_in 1156 (by decide +kernel) rfl
theorem tw_1157 : (Jvm.Cond.code ({ cls := "UnitKitchensModel", name := "isLorry", desc := "(I)Z" } : Jvm.MethodName) prog_10_method_7_code (2 : Nat) (Option.some Jvm.ClassFile.FieldType.boolean)) ∈ xT := xT_in 1157 (by decide +kernel) rfl
theorem tw_1158 : (Jvm.Cond.methodLink "UnitKitchensModel" (84 : Nat) ({ cls := "UnitKitchensModel", name := "isAt", desc := "(II)Z" } : Jvm.MethodName)) ∈ xT := xT_in 1158 (by decide +kernel) rfl
theorem tw_1160 : (Jvm.Cond.instanceMethod ({ cls := "UnitKitchensModel", name := "isAt", desc := "(II)Z" } : Jvm.MethodName)) ∈ xT := xT_in 1160 (by decide +kernel) rfl
theorem tw_1161 : (Jvm.Cond.code ({ cls := "UnitKitchensModel", name := "isAt", desc := "(II)Z" } : Jvm.MethodName) prog_10_method_17_code (3 : Nat) (Option.some Jvm.ClassFile.FieldType.boolean)) ∈ xT := xT_in 1161 (by decide +kernel) rfl
theorem tw_1162 : (Jvm.Cond.methodLink "UnitKitchensModel" (48 : Nat) ({ cls := "UnitKitchensModel", name := "stands", desc := "(I)Z" } : Jvm.MethodName)) ∈ xT := xT_in 1162 (by decide +kernel) rfl
theorem tw_1164 : (Jvm.Cond.instanceMethod ({ cls := "UnitKitchensModel", name := "stands", desc := "(I)Z" } : Jvm.MethodName)) ∈ xT := xT_in 1164 (by decide +kernel) rfl
theorem tw_1165 : (Jvm.Cond.code ({ cls := "UnitKitchensModel", name := "stands", desc := "(I)Z" } : Jvm.MethodName) prog_10_method_16_code (2 : Nat) (Option.some Jvm.ClassFile.FieldType.boolean)) ∈ xT := xT_in 1165 (by decide +kernel) rfl
theorem tw_1166 : (Jvm.Cond.methodLink "UnitKitchensModel" (36 : Nat) ({ cls := "UnitKitchensModel", name := "mealsIn", desc := "(II)I" } : Jvm.MethodName)) ∈ xT := xT_in 1166 (by decide +kernel) rfl
theorem tw_1168 : (Jvm.Cond.instanceMethod ({ cls := "UnitKitchensModel", name := "mealsIn", desc := "(II)I" } : Jvm.MethodName)) ∈ xT := xT_in 1168 (by decide +kernel) rfl
theorem tw_1169 : (Jvm.Cond.code ({ cls := "UnitKitchensModel", name := "mealsIn", desc := "(II)I" } : Jvm.MethodName) prog_10_method_12_code (5 : Nat) (Option.some Jvm.ClassFile.FieldType.int)) ∈ xT := xT_in 1169 (by decide +kernel) rfl
theorem tw_1170 : (Jvm.Cond.methodLink "UnitKitchensModel" (87 : Nat) ({ cls := "UnitKitchensModel", name := "allIn", desc := "(I)I" } : Jvm.MethodName)) ∈ xT := xT_in 1170 (by decide +kernel) rfl
theorem tw_1172 : (Jvm.Cond.instanceMethod ({ cls := "UnitKitchensModel", name := "allIn", desc := "(I)I" } : Jvm.MethodName)) ∈ xT := xT_in 1172 (by decide +kernel) rfl
theorem tw_1173 : (Jvm.Cond.code ({ cls := "UnitKitchensModel", name := "allIn", desc := "(I)I" } : Jvm.MethodName) prog_10_method_13_code (2 : Nat) (Option.some Jvm.ClassFile.FieldType.int)) ∈ xT := xT_in 1173 (by decide +kernel) rfl
theorem tw_1174 : (Jvm.Cond.methodLink "UnitKitchensModel" (40 : Nat) ({ cls := "UnitKitchensModel", name := "firstMinute", desc := "()I" } : Jvm.MethodName)) ∈ xT := xT_in 1174 (by decide +kernel) rfl
theorem tw_1176 : (Jvm.Cond.instanceMethod ({ cls := "UnitKitchensModel", name := "firstMinute", desc := "()I" } : Jvm.MethodName)) ∈ xT := xT_in 1176 (by decide +kernel) rfl
theorem tw_1177 : (Jvm.Cond.code ({ cls := "UnitKitchensModel", name := "firstMinute", desc := "()I" } : Jvm.MethodName) prog_10_method_11_code (1 : Nat) (Option.some Jvm.ClassFile.FieldType.int)) ∈ xT := xT_in 1177 (by decide +kernel) rfl
theorem tw_1178 : (Jvm.Cond.methodLink "UnitKitchensModel" (44 : Nat) ({ cls := "UnitKitchensModel", name := "slot", desc := "(III)I" } : Jvm.MethodName)) ∈ xT := xT_in 1178 (by decide +kernel) rfl
theorem tw_1179 : (Jvm.Cond.static ({ cls := "UnitKitchensModel", name := "slot", desc := "(III)I" } : Jvm.MethodName)) ∈ xT := xT_in 1179 (by decide +kernel) rfl
theorem tw_1180 : (Jvm.Cond.code ({ cls := "UnitKitchensModel", name := "slot", desc := "(III)I" } : Jvm.MethodName) prog_10_method_10_code (3 : Nat) (Option.some Jvm.ClassFile.FieldType.int)) ∈ xT := xT_in 1180 (by decide +kernel) rfl
theorem tw_1181 : (Jvm.Cond.methodLink "UnitKitchensLaw" (144 : Nat) ({ cls := "UnitKitchensModel", name := "unload", desc := "(II)I" } : Jvm.MethodName)) ∈ xT := xT_in 1181 (by decide +kernel) rfl
theorem tw_1182 : (Jvm.Cond.instanceMethod ({ cls := "UnitKitchensModel", name := "unload", desc := "(II)I" } : Jvm.MethodName)) ∈ xT := xT_in 1182 (by decide +kernel) rfl
theorem tw_1183 : (Jvm.Cond.selects "UnitKitchensModel" ({ cls := "UnitKitchensModel", name := "unload", desc := "(II)I" } : Jvm.MethodName) ({ cls := "UnitKitchensModel", name := "unload", desc := "(II)I" } : Jvm.MethodName)) ∈ xT := xT_in 1183 (by decide +kernel) rfl
theorem tw_1184 : (Jvm.Cond.code ({ cls := "UnitKitchensModel", name := "unload", desc := "(II)I" } : Jvm.MethodName) prog_10_method_31_code (6 : Nat) (Option.some Jvm.ClassFile.FieldType.int)) ∈ xT := xT_in 1184 (by decide +kernel) rfl
theorem tw_1185 : (Jvm.Cond.methodLink "UnitKitchensLaw" (147 : Nat) ({ cls := "UnitKitchensModel", name := "drive", desc := "(II)I" } : Jvm.MethodName)) ∈ xT := xT_in 1185 (by decide +kernel) rfl
theorem tw_1186 : (Jvm.Cond.instanceMethod ({ cls := "UnitKitchensModel", name := "drive", desc := "(II)I" } : Jvm.MethodName)) ∈ xT := xT_in 1186 (by decide +kernel) rfl
theorem tw_1187 : (Jvm.Cond.selects "UnitKitchensModel" ({ cls := "UnitKitchensModel", name := "drive", desc := "(II)I" } : Jvm.MethodName) ({ cls := "UnitKitchensModel", name := "drive", desc := "(II)I" } : Jvm.MethodName)) ∈ xT := xT_in 1187 (by decide +kernel) rfl
theorem tw_1188 : (Jvm.Cond.code ({ cls := "UnitKitchensModel", name := "drive", desc := "(II)I" } : Jvm.MethodName) prog_10_method_32_code (4 : Nat) (Option.some Jvm.ClassFile.FieldType.int)) ∈ xT := xT_in 1188 (by decide +kernel) rfl
theorem tw_1189 : (Jvm.Cond.methodLink "UnitKitchensModel" (90 : Nat) ({ cls := "UnitKitchensModel", name := "driveBetween", desc := "(II)I" } : Jvm.MethodName)) ∈ xT := xT_in 1189 (by decide +kernel) rfl
theorem tw_1191 : (Jvm.Cond.instanceMethod ({ cls := "UnitKitchensModel", name := "driveBetween", desc := "(II)I" } : Jvm.MethodName)) ∈ xT := xT_in 1191 (by decide +kernel) rfl
theorem tw_1192 : (Jvm.Cond.code ({ cls := "UnitKitchensModel", name := "driveBetween", desc := "(II)I" } : Jvm.MethodName) prog_10_method_18_code (5 : Nat) (Option.some Jvm.ClassFile.FieldType.int)) ∈ xT := xT_in 1192 (by decide +kernel) rfl
theorem tw_1193 : (Jvm.Cond.methodLink "UnitKitchensModel" (52 : Nat) ({ cls := "UnitKitchensModel", name := "size", desc := "(I)I" } : Jvm.MethodName)) ∈ xT := xT_in 1193 (by decide +kernel) rfl
theorem tw_1194 : (Jvm.Cond.static ({ cls := "UnitKitchensModel", name := "size", desc := "(I)I" } : Jvm.MethodName)) ∈ xT := xT_in 1194 (by decide +kernel) rfl
theorem tw_1195 : (Jvm.Cond.code ({ cls := "UnitKitchensModel", name := "size", desc := "(I)I" } : Jvm.MethodName) prog_10_method_9_code (1 : Nat) (Option.some Jvm.ClassFile.FieldType.int)) ∈ xT := xT_in 1195 (by decide +kernel) rfl
theorem tw_1196 : (Jvm.Cond.methodLink "UnitKitchensLaw" (151 : Nat) ({ cls := "UnitKitchensModel", name := "addUnit", desc := "(IIIII)I" } : Jvm.MethodName)) ∈ xT := xT_in 1196 (by decide +kernel) rfl
theorem tw_1197 : (Jvm.Cond.instanceMethod ({ cls := "UnitKitchensModel", name := "addUnit", desc := "(IIIII)I" } : Jvm.MethodName)) ∈ xT := xT_in 1197 (by decide +kernel) rfl
theorem tw_1198 : (Jvm.Cond.selects "UnitKitchensModel" ({ cls := "UnitKitchensModel", name := "addUnit", desc := "(IIIII)I" } : Jvm.MethodName) ({ cls := "UnitKitchensModel", name := "addUnit", desc := "(IIIII)I" } : Jvm.MethodName)) ∈ xT := xT_in 1198 (by decide +kernel) rfl
theorem tw_1199 : (Jvm.Cond.code ({ cls := "UnitKitchensModel", name := "addUnit", desc := "(IIIII)I" } : Jvm.MethodName) prog_10_method_40_code (6 : Nat) (Option.some Jvm.ClassFile.FieldType.int)) ∈ xT := xT_in 1199 (by decide +kernel) rfl
theorem tw_1200 : (Jvm.Cond.methodLink "UnitKitchensModel" (100 : Nat) ({ cls := "UnitKitchensModel", name := "refusedUnit", desc := "(IIIII)I" } : Jvm.MethodName)) ∈ xT := xT_in 1200 (by decide +kernel) rfl
theorem tw_1202 : (Jvm.Cond.instanceMethod ({ cls := "UnitKitchensModel", name := "refusedUnit", desc := "(IIIII)I" } : Jvm.MethodName)) ∈ xT := xT_in 1202 (by decide +kernel) rfl
theorem tw_1203 : (Jvm.Cond.code ({ cls := "UnitKitchensModel", name := "refusedUnit", desc := "(IIIII)I" } : Jvm.MethodName) prog_10_method_39_code (7 : Nat) (Option.some Jvm.ClassFile.FieldType.int)) ∈ xT := xT_in 1203 (by decide +kernel) rfl
theorem tw_1204 : (Jvm.Cond.methodLink "UnitKitchensModel" (104 : Nat) ({ cls := "UnitKitchensModel", name := "putUnit", desc := "(IIIII)I" } : Jvm.MethodName)) ∈ xT := xT_in 1204 (by decide +kernel) rfl
theorem tw_1206 : (Jvm.Cond.instanceMethod ({ cls := "UnitKitchensModel", name := "putUnit", desc := "(IIIII)I" } : Jvm.MethodName)) ∈ xT := xT_in 1206 (by decide +kernel) rfl
theorem tw_1207 : (Jvm.Cond.code ({ cls := "UnitKitchensModel", name := "putUnit", desc := "(IIIII)I" } : Jvm.MethodName) prog_10_method_38_code (8 : Nat) (Option.some Jvm.ClassFile.FieldType.int)) ∈ xT := xT_in 1207 (by decide +kernel) rfl
theorem tw_1208 : (Jvm.Cond.methodLink "UnitKitchensModel" (96 : Nat) ({ cls := "UnitKitchensModel", name := "setUnit", desc := "(III)V" } : Jvm.MethodName)) ∈ xT := xT_in 1208 (by decide +kernel) rfl
theorem tw_1210 : (Jvm.Cond.instanceMethod ({ cls := "UnitKitchensModel", name := "setUnit", desc := "(III)V" } : Jvm.MethodName)) ∈ xT := xT_in 1210 (by decide +kernel) rfl
theorem tw_1211 : (Jvm.Cond.code ({ cls := "UnitKitchensModel", name := "setUnit", desc := "(III)V" } : Jvm.MethodName) prog_10_method_34_code (4 : Nat) (Option.none : Option Jvm.ClassFile.FieldType)) ∈ xT := xT_in 1211 (by decide +kernel) rfl
theorem tw_1212 : (Jvm.Cond.methodLink "UnitKitchensLaw" (154 : Nat) ({ cls := "UnitKitchensModel", name := "split", desc := "(III)I" } : Jvm.MethodName)) ∈ xT := xT_in 1212 (by decide +kernel) rfl
theorem tw_1213 : (Jvm.Cond.instanceMethod ({ cls := "UnitKitchensModel", name := "split", desc := "(III)I" } : Jvm.MethodName)) ∈ xT := xT_in 1213 (by decide +kernel) rfl
theorem tw_1214 : (Jvm.Cond.selects "UnitKitchensModel" ({ cls := "UnitKitchensModel", name := "split", desc := "(III)I" } : Jvm.MethodName) ({ cls := "UnitKitchensModel", name := "split", desc := "(III)I" } : Jvm.MethodName)) ∈ xT := xT_in 1214 (by decide +kernel) rfl
theorem tw_1215 : (Jvm.Cond.code ({ cls := "UnitKitchensModel", name := "split", desc := "(III)I" } : Jvm.MethodName) prog_10_method_42_code (4 : Nat) (Option.some Jvm.ClassFile.FieldType.int)) ∈ xT := xT_in 1215 (by decide +kernel) rfl
theorem tw_1216 : (Jvm.Cond.methodLink "UnitKitchensModel" (110 : Nat) ({ cls := "UnitKitchensModel", name := "isUnit", desc := "(I)Z" } : Jvm.MethodName)) ∈ xT := xT_in 1216 (by decide +kernel) rfl
theorem tw_1218 : (Jvm.Cond.instanceMethod ({ cls := "UnitKitchensModel", name := "isUnit", desc := "(I)Z" } : Jvm.MethodName)) ∈ xT := xT_in 1218 (by decide +kernel) rfl
theorem tw_1219 : (Jvm.Cond.code ({ cls := "UnitKitchensModel", name := "isUnit", desc := "(I)Z" } : Jvm.MethodName) prog_10_method_8_code (2 : Nat) (Option.some Jvm.ClassFile.FieldType.boolean)) ∈ xT := xT_in 1219 (by decide +kernel) rfl
theorem tw_1220 : (Jvm.Cond.methodLink "UnitKitchensModel" (113 : Nat) ({ cls := "UnitKitchensModel", name := "canSplit", desc := "(III)Z" } : Jvm.MethodName)) ∈ xT := xT_in 1220 (by decide +kernel) rfl
theorem tw_1222 : (Jvm.Cond.instanceMethod ({ cls := "UnitKitchensModel", name := "canSplit", desc := "(III)Z" } : Jvm.MethodName)) ∈ xT := xT_in 1222 (by decide +kernel) rfl
theorem tw_1223 : (Jvm.Cond.code ({ cls := "UnitKitchensModel", name := "canSplit", desc := "(III)Z" } : Jvm.MethodName) prog_10_method_41_code (6 : Nat) (Option.some Jvm.ClassFile.FieldType.boolean)) ∈ xT := xT_in 1223 (by decide +kernel) rfl
theorem tw_1224 : (Jvm.Cond.methodLink "UnitKitchensModel" (93 : Nat) ({ cls := "UnitKitchensModel", name := "ofUnit", desc := "(II)I" } : Jvm.MethodName)) ∈ xT := xT_in 1224 (by decide +kernel) rfl
theorem tw_1226 : (Jvm.Cond.instanceMethod ({ cls := "UnitKitchensModel", name := "ofUnit", desc := "(II)I" } : Jvm.MethodName)) ∈ xT := xT_in 1226 (by decide +kernel) rfl
theorem tw_1227 : (Jvm.Cond.code ({ cls := "UnitKitchensModel", name := "ofUnit", desc := "(II)I" } : Jvm.MethodName) prog_10_method_33_code (3 : Nat) (Option.some Jvm.ClassFile.FieldType.int)) ∈ xT := xT_in 1227 (by decide +kernel) rfl
theorem tw_1228 : (Jvm.Cond.methodLink "UnitKitchensModel" (107 : Nat) ({ cls := "UnitKitchensModel", name := "works", desc := "(I)Z" } : Jvm.MethodName)) ∈ xT := xT_in 1228 (by decide +kernel) rfl
theorem tw_1230 : (Jvm.Cond.instanceMethod ({ cls := "UnitKitchensModel", name := "works", desc := "(I)Z" } : Jvm.MethodName)) ∈ xT := xT_in 1230 (by decide +kernel) rfl
theorem tw_1231 : (Jvm.Cond.code ({ cls := "UnitKitchensModel", name := "works", desc := "(I)Z" } : Jvm.MethodName) prog_10_method_36_code (2 : Nat) (Option.some Jvm.ClassFile.FieldType.boolean)) ∈ xT := xT_in 1231 (by decide +kernel) rfl
theorem tw_1232 : (Jvm.Cond.methodLink "UnitKitchensModel" (116 : Nat) ({ cls := "UnitKitchensModel", name := "addTo", desc := "(III)V" } : Jvm.MethodName)) ∈ xT := xT_in 1232 (by decide +kernel) rfl
theorem tw_1234 : (Jvm.Cond.instanceMethod ({ cls := "UnitKitchensModel", name := "addTo", desc := "(III)V" } : Jvm.MethodName)) ∈ xT := xT_in 1234 (by decide +kernel) rfl
theorem tw_1235 : (Jvm.Cond.code ({ cls := "UnitKitchensModel", name := "addTo", desc := "(III)V" } : Jvm.MethodName) prog_10_method_35_code (4 : Nat) (Option.none : Option Jvm.ClassFile.FieldType)) ∈ xT := xT_in 1235 (by decide +kernel) rfl
theorem tw_1236 : (Jvm.Cond.methodLink "UnitKitchensLaw" (157 : Nat) ({ cls := "UnitKitchensModel", name := "join", desc := "(II)I" } : Jvm.MethodName)) ∈ xT := xT_in 1236 (by decide +kernel) rfl
theorem tw_1237 : (Jvm.Cond.instanceMethod ({ cls := "UnitKitchensModel", name := "join", desc := "(II)I" } : Jvm.MethodName)) ∈ xT := xT_in 1237 (by decide +kernel) rfl
theorem tw_1238 : (Jvm.Cond.selects "UnitKitchensModel" ({ cls := "UnitKitchensModel", name := "join", desc := "(II)I" } : Jvm.MethodName) ({ cls := "UnitKitchensModel", name := "join", desc := "(II)I" } : Jvm.MethodName)) ∈ xT := xT_in 1238 (by decide +kernel) rfl
theorem tw_1239 : (Jvm.Cond.code ({ cls := "UnitKitchensModel", name := "join", desc := "(II)I" } : Jvm.MethodName) prog_10_method_44_code (5 : Nat) (Option.some Jvm.ClassFile.FieldType.int)) ∈ xT := xT_in 1239 (by decide +kernel) rfl
theorem tw_1240 : (Jvm.Cond.methodLink "UnitKitchensModel" (119 : Nat) ({ cls := "UnitKitchensModel", name := "canJoin", desc := "(II)Z" } : Jvm.MethodName)) ∈ xT := xT_in 1240 (by decide +kernel) rfl
theorem tw_1242 : (Jvm.Cond.instanceMethod ({ cls := "UnitKitchensModel", name := "canJoin", desc := "(II)Z" } : Jvm.MethodName)) ∈ xT := xT_in 1242 (by decide +kernel) rfl
theorem tw_1243 : (Jvm.Cond.code ({ cls := "UnitKitchensModel", name := "canJoin", desc := "(II)Z" } : Jvm.MethodName) prog_10_method_43_code (3 : Nat) (Option.some Jvm.ClassFile.FieldType.boolean)) ∈ xT := xT_in 1243 (by decide +kernel) rfl
theorem tw_1244 : (Jvm.Cond.methodLink "UnitKitchensLaw" (160 : Nat) ({ cls := "UnitKitchensModel", name := "move", desc := "(II)I" } : Jvm.MethodName)) ∈ xT := xT_in 1244 (by decide +kernel) rfl
theorem tw_1245 : (Jvm.Cond.instanceMethod ({ cls := "UnitKitchensModel", name := "move", desc := "(II)I" } : Jvm.MethodName)) ∈ xT := xT_in 1245 (by decide +kernel) rfl
theorem tw_1246 : (Jvm.Cond.selects "UnitKitchensModel" ({ cls := "UnitKitchensModel", name := "move", desc := "(II)I" } : Jvm.MethodName) ({ cls := "UnitKitchensModel", name := "move", desc := "(II)I" } : Jvm.MethodName)) ∈ xT := xT_in 1246 (by decide +kernel) rfl
theorem tw_1247 : (Jvm.Cond.code ({ cls := "UnitKitchensModel", name := "move", desc := "(II)I" } : Jvm.MethodName) prog_10_method_45_code (4 : Nat) (Option.some Jvm.ClassFile.FieldType.int)) ∈ xT := xT_in 1247 (by decide +kernel) rfl
theorem tw_1248 : (Jvm.Cond.methodLink "UnitKitchensLaw" (163 : Nat) ({ cls := "UnitKitchensModel", name := "wrap", desc := "(I)I" } : Jvm.MethodName)) ∈ xT := xT_in 1248 (by decide +kernel) rfl
theorem tw_1249 : (Jvm.Cond.instanceMethod ({ cls := "UnitKitchensModel", name := "wrap", desc := "(I)I" } : Jvm.MethodName)) ∈ xT := xT_in 1249 (by decide +kernel) rfl
theorem tw_1250 : (Jvm.Cond.selects "UnitKitchensModel" ({ cls := "UnitKitchensModel", name := "wrap", desc := "(I)I" } : Jvm.MethodName) ({ cls := "UnitKitchensModel", name := "wrap", desc := "(I)I" } : Jvm.MethodName)) ∈ xT := xT_in 1250 (by decide +kernel) rfl
theorem tw_1251 : (Jvm.Cond.code ({ cls := "UnitKitchensModel", name := "wrap", desc := "(I)I" } : Jvm.MethodName) prog_10_method_46_code (3 : Nat) (Option.some Jvm.ClassFile.FieldType.int)) ∈ xT := xT_in 1251 (by decide +kernel) rfl
theorem tw_1252 : (Jvm.Cond.methodLink "UnitKitchensModel" (122 : Nat) ({ cls := "UnitKitchensModel", name := "owedTo", desc := "(I)I" } : Jvm.MethodName)) ∈ xT := xT_in 1252 (by decide +kernel) rfl
theorem tw_1254 : (Jvm.Cond.instanceMethod ({ cls := "UnitKitchensModel", name := "owedTo", desc := "(I)I" } : Jvm.MethodName)) ∈ xT := xT_in 1254 (by decide +kernel) rfl
theorem tw_1255 : (Jvm.Cond.code ({ cls := "UnitKitchensModel", name := "owedTo", desc := "(I)I" } : Jvm.MethodName) prog_10_method_37_code (2 : Nat) (Option.some Jvm.ClassFile.FieldType.int)) ∈ xT := xT_in 1255 (by decide +kernel) rfl
theorem tw_1256 : (Jvm.Cond.methodLink "UnitKitchensLaw" (166 : Nat) ({ cls := "UnitKitchensModel", name := "pass", desc := "(I)I" } : Jvm.MethodName)) ∈ xT := xT_in 1256 (by decide +kernel) rfl
theorem tw_1257 : (Jvm.Cond.instanceMethod ({ cls := "UnitKitchensModel", name := "pass", desc := "(I)I" } : Jvm.MethodName)) ∈ xT := xT_in 1257 (by decide +kernel) rfl
theorem tw_1258 : (Jvm.Cond.selects "UnitKitchensModel" ({ cls := "UnitKitchensModel", name := "pass", desc := "(I)I" } : Jvm.MethodName) ({ cls := "UnitKitchensModel", name := "pass", desc := "(I)I" } : Jvm.MethodName)) ∈ xT := xT_in 1258 (by decide +kernel) rfl
theorem tw_1259 : (Jvm.Cond.code ({ cls := "UnitKitchensModel", name := "pass", desc := "(I)I" } : Jvm.MethodName) prog_10_method_57_code (2 : Nat) (Option.some Jvm.ClassFile.FieldType.int)) ∈ xT := xT_in 1259 (by decide +kernel) rfl
theorem tw_1260 : (Jvm.Cond.methodLink "UnitKitchensModel" (162 : Nat) ({ cls := "UnitKitchensModel", name := "go", desc := "(I)I" } : Jvm.MethodName)) ∈ xT := xT_in 1260 (by decide +kernel) rfl
theorem tw_1262 : (Jvm.Cond.instanceMethod ({ cls := "UnitKitchensModel", name := "go", desc := "(I)I" } : Jvm.MethodName)) ∈ xT := xT_in 1262 (by decide +kernel) rfl
theorem tw_1263 : (Jvm.Cond.code ({ cls := "UnitKitchensModel", name := "go", desc := "(I)I" } : Jvm.MethodName) prog_10_method_56_code (4 : Nat) (Option.some Jvm.ClassFile.FieldType.int)) ∈ xT := xT_in 1263 (by decide +kernel) rfl
theorem tw_1264 : (Jvm.Cond.constant "UnitKitchensModel" (137 : Nat) (100000000 : Int32)) ∈ xT := xT_in 1264 (by decide +kernel) rfl
theorem tw_1265 : (Jvm.Cond.methodLink "UnitKitchensModel" (159 : Nat) ({ cls := "UnitKitchensModel", name := "minute", desc := "()V" } : Jvm.MethodName)) ∈ xT := xT_in 1265 (by decide +kernel) rfl
theorem tw_1267 : (Jvm.Cond.instanceMethod ({ cls := "UnitKitchensModel", name := "minute", desc := "()V" } : Jvm.MethodName)) ∈ xT := xT_in 1267 (by decide +kernel) rfl
theorem tw_1268 : (Jvm.Cond.code ({ cls := "UnitKitchensModel", name := "minute", desc := "()V" } : Jvm.MethodName) prog_10_method_55_code (1 : Nat) (Option.none : Option Jvm.ClassFile.FieldType)) ∈ xT := xT_in 1268 (by decide +kernel) rfl
theorem tw_1269 : (Jvm.Cond.methodLink "UnitKitchensModel" (138 : Nat) ({ cls := "UnitKitchensModel", name := "clearMinute", desc := "()V" } : Jvm.MethodName)) ∈ xT := xT_in 1269 (by decide +kernel) rfl
theorem tw_1271 : (Jvm.Cond.instanceMethod ({ cls := "UnitKitchensModel", name := "clearMinute", desc := "()V" } : Jvm.MethodName)) ∈ xT := xT_in 1271 (by decide +kernel) rfl
theorem tw_1272 : (Jvm.Cond.code ({ cls := "UnitKitchensModel", name := "clearMinute", desc := "()V" } : Jvm.MethodName) prog_10_method_48_code (3 : Nat) (Option.none : Option Jvm.ClassFile.FieldType)) ∈ xT := xT_in 1272 (by decide +kernel) rfl
theorem tw_1273 : (Jvm.Cond.methodLink "UnitKitchensModel" (141 : Nat) ({ cls := "UnitKitchensModel", name := "moveLorries", desc := "()V" } : Jvm.MethodName)) ∈ xT := xT_in 1273 (by decide +kernel) rfl
theorem tw_1275 : (Jvm.Cond.instanceMethod ({ cls := "UnitKitchensModel", name := "moveLorries", desc := "()V" } : Jvm.MethodName)) ∈ xT := xT_in 1275 (by decide +kernel) rfl
theorem tw_1276 : (Jvm.Cond.code ({ cls := "UnitKitchensModel", name := "moveLorries", desc := "()V" } : Jvm.MethodName) prog_10_method_47_code (2 : Nat) (Option.none : Option Jvm.ClassFile.FieldType)) ∈ xT := xT_in 1276 (by decide +kernel) rfl
theorem tw_1277 : (Jvm.Cond.methodLink "UnitKitchensModel" (144 : Nat) ({ cls := "UnitKitchensModel", name := "cookAll", desc := "()V" } : Jvm.MethodName)) ∈ xT := xT_in 1277 (by decide +kernel) rfl
theorem tw_1279 : (Jvm.Cond.instanceMethod ({ cls := "UnitKitchensModel", name := "cookAll", desc := "()V" } : Jvm.MethodName)) ∈ xT := xT_in 1279 (by decide +kernel) rfl
theorem tw_1280 : (Jvm.Cond.code ({ cls := "UnitKitchensModel", name := "cookAll", desc := "()V" } : Jvm.MethodName) prog_10_method_49_code (3 : Nat) (Option.none : Option Jvm.ClassFile.FieldType)) ∈ xT := xT_in 1280 (by decide +kernel) rfl
theorem tw_1281 : (Jvm.Cond.methodLink "UnitKitchensModel" (147 : Nat) ({ cls := "UnitKitchensModel", name := "throwAway", desc := "()V" } : Jvm.MethodName)) ∈ xT := xT_in 1281 (by decide +kernel) rfl
theorem tw_1283 : (Jvm.Cond.instanceMethod ({ cls := "UnitKitchensModel", name := "throwAway", desc := "()V" } : Jvm.MethodName)) ∈ xT := xT_in 1283 (by decide +kernel) rfl
theorem tw_1284 : (Jvm.Cond.code ({ cls := "UnitKitchensModel", name := "throwAway", desc := "()V" } : Jvm.MethodName) prog_10_method_50_code (5 : Nat) (Option.none : Option Jvm.ClassFile.FieldType)) ∈ xT := xT_in 1284 (by decide +kernel) rfl
theorem tw_1285 : (Jvm.Cond.methodLink "UnitKitchensModel" (150 : Nat) ({ cls := "UnitKitchensModel", name := "callAll", desc := "()V" } : Jvm.MethodName)) ∈ xT := xT_in 1285 (by decide +kernel) rfl
theorem tw_1287 : (Jvm.Cond.instanceMethod ({ cls := "UnitKitchensModel", name := "callAll", desc := "()V" } : Jvm.MethodName)) ∈ xT := xT_in 1287 (by decide +kernel) rfl
theorem tw_1288 : (Jvm.Cond.code ({ cls := "UnitKitchensModel", name := "callAll", desc := "()V" } : Jvm.MethodName) prog_10_method_51_code (2 : Nat) (Option.none : Option Jvm.ClassFile.FieldType)) ∈ xT := xT_in 1288 (by decide +kernel) rfl
theorem tw_1289 : (Jvm.Cond.methodLink "UnitKitchensModel" (153 : Nat) ({ cls := "UnitKitchensModel", name := "serveAll", desc := "()V" } : Jvm.MethodName)) ∈ xT := xT_in 1289 (by decide +kernel) rfl
theorem tw_1291 : (Jvm.Cond.instanceMethod ({ cls := "UnitKitchensModel", name := "serveAll", desc := "()V" } : Jvm.MethodName)) ∈ xT := xT_in 1291 (by decide +kernel) rfl
theorem tw_1292 : (Jvm.Cond.code ({ cls := "UnitKitchensModel", name := "serveAll", desc := "()V" } : Jvm.MethodName) prog_10_method_53_code (2 : Nat) (Option.none : Option Jvm.ClassFile.FieldType)) ∈ xT := xT_in 1292 (by decide +kernel) rfl
theorem tw_1293 : (Jvm.Cond.methodLink "UnitKitchensModel" (128 : Nat) ({ cls := "UnitKitchensModel", name := "serve", desc := "(III)V" } : Jvm.MethodName)) ∈ xT := xT_in 1293 (by decide +kernel) rfl
theorem tw_1295 : (Jvm.Cond.instanceMethod ({ cls := "UnitKitchensModel", name := "serve", desc := "(III)V" } : Jvm.MethodName)) ∈ xT := xT_in 1295 (by decide +kernel) rfl
theorem tw_1296 : (Jvm.Cond.code ({ cls := "UnitKitchensModel", name := "serve", desc := "(III)V" } : Jvm.MethodName) prog_10_method_52_code (10 : Nat) (Option.none : Option Jvm.ClassFile.FieldType)) ∈ xT := xT_in 1296 (by decide +kernel) rfl
theorem tw_1297 : (Jvm.Cond.methodLink "UnitKitchensModel" (125 : Nat) ({ cls := "UnitKitchensModel", name := "takes", desc := "(III)I" } : Jvm.MethodName)) ∈ xT := xT_in 1297 (by decide +kernel) rfl
theorem tw_1299 : (Jvm.Cond.instanceMethod ({ cls := "UnitKitchensModel", name := "takes", desc := "(III)I" } : Jvm.MethodName)) ∈ xT := xT_in 1299 (by decide +kernel) rfl
theorem tw_1300 : (Jvm.Cond.code ({ cls := "UnitKitchensModel", name := "takes", desc := "(III)I" } : Jvm.MethodName) prog_10_method_15_code (9 : Nat) (Option.some Jvm.ClassFile.FieldType.int)) ∈ xT := xT_in 1300 (by decide +kernel) rfl
theorem tw_1301 : (Jvm.Cond.methodLink "UnitKitchensModel" (156 : Nat) ({ cls := "UnitKitchensModel", name := "fine", desc := "()V" } : Jvm.MethodName)) ∈ xT := xT_in 1301 (by decide +kernel) rfl
theorem tw_1303 : (Jvm.Cond.instanceMethod ({ cls := "UnitKitchensModel", name := "fine", desc := "()V" } : Jvm.MethodName)) ∈ xT := xT_in 1303 (by decide +kernel) rfl
theorem tw_1304 : (Jvm.Cond.code ({ cls := "UnitKitchensModel", name := "fine", desc := "()V" } : Jvm.MethodName) prog_10_method_54_code (5 : Nat) (Option.none : Option Jvm.ClassFile.FieldType)) ∈ xT := xT_in 1304 (by decide +kernel) rfl
theorem tw_1305 : (Jvm.Cond.methodLink "UnitKitchensLaw" (169 : Nat) ({ cls := "UnitKitchensModel", name := "append", desc := "(I)I" } : Jvm.MethodName)) ∈ xT := xT_in 1305 (by decide +kernel) rfl
theorem tw_1306 : (Jvm.Cond.instanceMethod ({ cls := "UnitKitchensModel", name := "append", desc := "(I)I" } : Jvm.MethodName)) ∈ xT := xT_in 1306 (by decide +kernel) rfl
theorem tw_1307 : (Jvm.Cond.selects "UnitKitchensModel" ({ cls := "UnitKitchensModel", name := "append", desc := "(I)I" } : Jvm.MethodName) ({ cls := "UnitKitchensModel", name := "append", desc := "(I)I" } : Jvm.MethodName)) ∈ xT := xT_in 1307 (by decide +kernel) rfl
theorem tw_1308 : (Jvm.Cond.code ({ cls := "UnitKitchensModel", name := "append", desc := "(I)I" } : Jvm.MethodName) prog_10_method_58_code (2 : Nat) (Option.some Jvm.ClassFile.FieldType.int)) ∈ xT := xT_in 1308 (by decide +kernel) rfl
theorem tw_1309 : (Jvm.Cond.methodLink "UnitKitchensLaw" (173 : Nat) ({ cls := "UnitKitchensModel", name := "clearBuffer", desc := "()I" } : Jvm.MethodName)) ∈ xT := xT_in 1309 (by decide +kernel) rfl
theorem tw_1310 : (Jvm.Cond.instanceMethod ({ cls := "UnitKitchensModel", name := "clearBuffer", desc := "()I" } : Jvm.MethodName)) ∈ xT := xT_in 1310 (by decide +kernel) rfl
theorem tw_1311 : (Jvm.Cond.selects "UnitKitchensModel" ({ cls := "UnitKitchensModel", name := "clearBuffer", desc := "()I" } : Jvm.MethodName) ({ cls := "UnitKitchensModel", name := "clearBuffer", desc := "()I" } : Jvm.MethodName)) ∈ xT := xT_in 1311 (by decide +kernel) rfl
theorem tw_1312 : (Jvm.Cond.code ({ cls := "UnitKitchensModel", name := "clearBuffer", desc := "()I" } : Jvm.MethodName) prog_10_method_59_code (2 : Nat) (Option.some Jvm.ClassFile.FieldType.int)) ∈ xT := xT_in 1312 (by decide +kernel) rfl
theorem tw_1313 : (Jvm.Cond.methodLink "UnitKitchensLaw" (177 : Nat) ({ cls := "UnitKitchensModel", name := "firstError", desc := "()I" } : Jvm.MethodName)) ∈ xT := xT_in 1313 (by decide +kernel) rfl
theorem tw_1314 : (Jvm.Cond.instanceMethod ({ cls := "UnitKitchensModel", name := "firstError", desc := "()I" } : Jvm.MethodName)) ∈ xT := xT_in 1314 (by decide +kernel) rfl
theorem tw_1315 : (Jvm.Cond.selects "UnitKitchensModel" ({ cls := "UnitKitchensModel", name := "firstError", desc := "()I" } : Jvm.MethodName) ({ cls := "UnitKitchensModel", name := "firstError", desc := "()I" } : Jvm.MethodName)) ∈ xT := xT_in 1315 (by decide +kernel) rfl
theorem tw_1316 : (Jvm.Cond.code ({ cls := "UnitKitchensModel", name := "firstError", desc := "()I" } : Jvm.MethodName) prog_10_method_66_code (1 : Nat) (Option.some Jvm.ClassFile.FieldType.int)) ∈ xT := xT_in 1316 (by decide +kernel) rfl
theorem tw_1317 : (Jvm.Cond.methodLink "UnitKitchensModel" (191 : Nat) ({ cls := "UnitKitchensModel", name := "rightUpTo", desc := "()I" } : Jvm.MethodName)) ∈ xT := xT_in 1317 (by decide +kernel) rfl
theorem tw_1319 : (Jvm.Cond.instanceMethod ({ cls := "UnitKitchensModel", name := "rightUpTo", desc := "()I" } : Jvm.MethodName)) ∈ xT := xT_in 1319 (by decide +kernel) rfl
theorem tw_1320 : (Jvm.Cond.code ({ cls := "UnitKitchensModel", name := "rightUpTo", desc := "()I" } : Jvm.MethodName) prog_10_method_65_code (2 : Nat) (Option.some Jvm.ClassFile.FieldType.int)) ∈ xT := xT_in 1320 (by decide +kernel) rfl
theorem tw_1321 : (Jvm.Cond.methodLink "UnitKitchensModel" (189 : Nat) ({ cls := "UnitKitchensModel", name := "takes", desc := "(I)Z" } : Jvm.MethodName)) ∈ xT := xT_in 1321 (by decide +kernel) rfl
theorem tw_1323 : (Jvm.Cond.instanceMethod ({ cls := "UnitKitchensModel", name := "takes", desc := "(I)Z" } : Jvm.MethodName)) ∈ xT := xT_in 1323 (by decide +kernel) rfl
theorem tw_1324 : (Jvm.Cond.code ({ cls := "UnitKitchensModel", name := "takes", desc := "(I)Z" } : Jvm.MethodName) prog_10_method_64_code (2 : Nat) (Option.some Jvm.ClassFile.FieldType.boolean)) ∈ xT := xT_in 1324 (by decide +kernel) rfl
theorem tw_1325 : (Jvm.Cond.methodLink "UnitKitchensModel" (180 : Nat) ({ cls := "UnitKitchensModel", name := "takesPlace", desc := "(I)Z" } : Jvm.MethodName)) ∈ xT := xT_in 1325 (by decide +kernel) rfl
theorem tw_1327 : (Jvm.Cond.instanceMethod ({ cls := "UnitKitchensModel", name := "takesPlace", desc := "(I)Z" } : Jvm.MethodName)) ∈ xT := xT_in 1327 (by decide +kernel) rfl
theorem tw_1328 : (Jvm.Cond.code ({ cls := "UnitKitchensModel", name := "takesPlace", desc := "(I)Z" } : Jvm.MethodName) prog_10_method_63_code (2 : Nat) (Option.some Jvm.ClassFile.FieldType.boolean)) ∈ xT := xT_in 1328 (by decide +kernel) rfl
theorem tw_1329 : (Jvm.Cond.methodLink "UnitKitchensModel" (183 : Nat) ({ cls := "UnitKitchensModel", name := "ends", desc := "(I)Z" } : Jvm.MethodName)) ∈ xT := xT_in 1329 (by decide +kernel) rfl
theorem tw_1331 : (Jvm.Cond.instanceMethod ({ cls := "UnitKitchensModel", name := "ends", desc := "(I)Z" } : Jvm.MethodName)) ∈ xT := xT_in 1331 (by decide +kernel) rfl
theorem tw_1332 : (Jvm.Cond.code ({ cls := "UnitKitchensModel", name := "ends", desc := "(I)Z" } : Jvm.MethodName) prog_10_method_62_code (2 : Nat) (Option.some Jvm.ClassFile.FieldType.boolean)) ∈ xT := xT_in 1332 (by decide +kernel) rfl
theorem tw_1333 : (Jvm.Cond.methodLink "UnitKitchensModel" (186 : Nat) ({ cls := "UnitKitchensModel", name := "takesDigit", desc := "(I)Z" } : Jvm.MethodName)) ∈ xT := xT_in 1333 (by decide +kernel) rfl
theorem tw_1335 : (Jvm.Cond.instanceMethod ({ cls := "UnitKitchensModel", name := "takesDigit", desc := "(I)Z" } : Jvm.MethodName)) ∈ xT := xT_in 1335 (by decide +kernel) rfl
theorem tw_1336 : (Jvm.Cond.code ({ cls := "UnitKitchensModel", name := "takesDigit", desc := "(I)Z" } : Jvm.MethodName) prog_10_method_61_code (4 : Nat) (Option.some Jvm.ClassFile.FieldType.boolean)) ∈ xT := xT_in 1336 (by decide +kernel) rfl
theorem tw_1337 : (Jvm.Cond.methodLink "UnitKitchensModel" (174 : Nat) ({ cls := "UnitKitchensModel", name := "most", desc := "(I)I" } : Jvm.MethodName)) ∈ xT := xT_in 1337 (by decide +kernel) rfl
theorem tw_1338 : (Jvm.Cond.static ({ cls := "UnitKitchensModel", name := "most", desc := "(I)I" } : Jvm.MethodName)) ∈ xT := xT_in 1338 (by decide +kernel) rfl
theorem tw_1339 : (Jvm.Cond.code ({ cls := "UnitKitchensModel", name := "most", desc := "(I)I" } : Jvm.MethodName) prog_10_method_60_code (1 : Nat) (Option.some Jvm.ClassFile.FieldType.int)) ∈ xT := xT_in 1339 (by decide +kernel) rfl
theorem tw_1340 : (Jvm.Cond.methodLink "UnitKitchensLaw" (181 : Nat) ({ cls := "UnitKitchensModel", name := "addSheet", desc := "()I" } : Jvm.MethodName)) ∈ xT := xT_in 1340 (by decide +kernel) rfl
theorem tw_1341 : (Jvm.Cond.instanceMethod ({ cls := "UnitKitchensModel", name := "addSheet", desc := "()I" } : Jvm.MethodName)) ∈ xT := xT_in 1341 (by decide +kernel) rfl
theorem tw_1342 : (Jvm.Cond.selects "UnitKitchensModel" ({ cls := "UnitKitchensModel", name := "addSheet", desc := "()I" } : Jvm.MethodName) ({ cls := "UnitKitchensModel", name := "addSheet", desc := "()I" } : Jvm.MethodName)) ∈ xT := xT_in 1342 (by decide +kernel) rfl
theorem tw_1343 : (Jvm.Cond.code ({ cls := "UnitKitchensModel", name := "addSheet", desc := "()I" } : Jvm.MethodName) prog_10_method_68_code (3 : Nat) (Option.some Jvm.ClassFile.FieldType.int)) ∈ xT := xT_in 1343 (by decide +kernel) rfl
theorem tw_1344 : (Jvm.Cond.methodLink "UnitKitchensModel" (194 : Nat) ({ cls := "UnitKitchensModel", name := "adds", desc := "(I)Z" } : Jvm.MethodName)) ∈ xT := xT_in 1344 (by decide +kernel) rfl
theorem tw_1346 : (Jvm.Cond.instanceMethod ({ cls := "UnitKitchensModel", name := "adds", desc := "(I)Z" } : Jvm.MethodName)) ∈ xT := xT_in 1346 (by decide +kernel) rfl
theorem tw_1347 : (Jvm.Cond.code ({ cls := "UnitKitchensModel", name := "adds", desc := "(I)Z" } : Jvm.MethodName) prog_10_method_67_code (4 : Nat) (Option.some Jvm.ClassFile.FieldType.boolean)) ∈ xT := xT_in 1347 (by decide +kernel) rfl
theorem tw_1348 : (Jvm.Cond.methodLink "UnitKitchensLaw" (184 : Nat) ({ cls := "UnitKitchensModel", name := "undo", desc := "()I" } : Jvm.MethodName)) ∈ xT := xT_in 1348 (by decide +kernel) rfl
theorem tw_1349 : (Jvm.Cond.instanceMethod ({ cls := "UnitKitchensModel", name := "undo", desc := "()I" } : Jvm.MethodName)) ∈ xT := xT_in 1349 (by decide +kernel) rfl
theorem tw_1350 : (Jvm.Cond.selects "UnitKitchensModel" ({ cls := "UnitKitchensModel", name := "undo", desc := "()I" } : Jvm.MethodName) ({ cls := "UnitKitchensModel", name := "undo", desc := "()I" } : Jvm.MethodName)) ∈ xT := xT_in 1350 (by decide +kernel) rfl
theorem tw_1351 : (Jvm.Cond.code ({ cls := "UnitKitchensModel", name := "undo", desc := "()I" } : Jvm.MethodName) prog_10_method_69_code (2 : Nat) (Option.some Jvm.ClassFile.FieldType.int)) ∈ xT := xT_in 1351 (by decide +kernel) rfl
theorem tw_1352 : (Jvm.Cond.methodLink "UnitKitchensLaw" (187 : Nat) ({ cls := "UnitKitchensModel", name := "place", desc := "(II)I" } : Jvm.MethodName)) ∈ xT := xT_in 1352 (by decide +kernel) rfl
theorem tw_1353 : (Jvm.Cond.instanceMethod ({ cls := "UnitKitchensModel", name := "place", desc := "(II)I" } : Jvm.MethodName)) ∈ xT := xT_in 1353 (by decide +kernel) rfl
theorem tw_1354 : (Jvm.Cond.selects "UnitKitchensModel" ({ cls := "UnitKitchensModel", name := "place", desc := "(II)I" } : Jvm.MethodName) ({ cls := "UnitKitchensModel", name := "place", desc := "(II)I" } : Jvm.MethodName)) ∈ xT := xT_in 1354 (by decide +kernel) rfl
theorem tw_1355 : (Jvm.Cond.code ({ cls := "UnitKitchensModel", name := "place", desc := "(II)I" } : Jvm.MethodName) prog_10_method_73_code (3 : Nat) (Option.some Jvm.ClassFile.FieldType.int)) ∈ xT := xT_in 1355 (by decide +kernel) rfl
theorem tw_1356 : (Jvm.Cond.methodLink "UnitKitchensModel" (203 : Nat) ({ cls := "UnitKitchensModel", name := "placeNow", desc := "(II)I" } : Jvm.MethodName)) ∈ xT := xT_in 1356 (by decide +kernel) rfl
theorem tw_1358 : (Jvm.Cond.instanceMethod ({ cls := "UnitKitchensModel", name := "placeNow", desc := "(II)I" } : Jvm.MethodName)) ∈ xT := xT_in 1358 (by decide +kernel) rfl
theorem tw_1359 : (Jvm.Cond.code ({ cls := "UnitKitchensModel", name := "placeNow", desc := "(II)I" } : Jvm.MethodName) prog_10_method_72_code (3 : Nat) (Option.some Jvm.ClassFile.FieldType.int)) ∈ xT := xT_in 1359 (by decide +kernel) rfl
theorem tw_1360 : (Jvm.Cond.methodLink "UnitKitchensModel" (197 : Nat) ({ cls := "UnitKitchensModel", name := "unitsAt", desc := "(II)I" } : Jvm.MethodName)) ∈ xT := xT_in 1360 (by decide +kernel) rfl
theorem tw_1362 : (Jvm.Cond.instanceMethod ({ cls := "UnitKitchensModel", name := "unitsAt", desc := "(II)I" } : Jvm.MethodName)) ∈ xT := xT_in 1362 (by decide +kernel) rfl
theorem tw_1363 : (Jvm.Cond.code ({ cls := "UnitKitchensModel", name := "unitsAt", desc := "(II)I" } : Jvm.MethodName) prog_10_method_70_code (6 : Nat) (Option.some Jvm.ClassFile.FieldType.int)) ∈ xT := xT_in 1363 (by decide +kernel) rfl
theorem tw_1364 : (Jvm.Cond.methodLink "UnitKitchensModel" (200 : Nat) ({ cls := "UnitKitchensModel", name := "storesAt", desc := "(II)I" } : Jvm.MethodName)) ∈ xT := xT_in 1364 (by decide +kernel) rfl
theorem tw_1366 : (Jvm.Cond.instanceMethod ({ cls := "UnitKitchensModel", name := "storesAt", desc := "(II)I" } : Jvm.MethodName)) ∈ xT := xT_in 1366 (by decide +kernel) rfl
theorem tw_1367 : (Jvm.Cond.code ({ cls := "UnitKitchensModel", name := "storesAt", desc := "(II)I" } : Jvm.MethodName) prog_10_method_71_code (5 : Nat) (Option.some Jvm.ClassFile.FieldType.int)) ∈ xT := xT_in 1367 (by decide +kernel) rfl
theorem tw_1368 : (Jvm.Cond.methodLink "UnitKitchensLaw" (190 : Nat) ({ cls := "UnitKitchensModel", name := "unit", desc := "(II)I" } : Jvm.MethodName)) ∈ xT := xT_in 1368 (by decide +kernel) rfl
theorem tw_1369 : (Jvm.Cond.instanceMethod ({ cls := "UnitKitchensModel", name := "unit", desc := "(II)I" } : Jvm.MethodName)) ∈ xT := xT_in 1369 (by decide +kernel) rfl
theorem tw_1370 : (Jvm.Cond.selects "UnitKitchensModel" ({ cls := "UnitKitchensModel", name := "unit", desc := "(II)I" } : Jvm.MethodName) ({ cls := "UnitKitchensModel", name := "unit", desc := "(II)I" } : Jvm.MethodName)) ∈ xT := xT_in 1370 (by decide +kernel) rfl
theorem tw_1371 : (Jvm.Cond.code ({ cls := "UnitKitchensModel", name := "unit", desc := "(II)I" } : Jvm.MethodName) prog_10_method_75_code (3 : Nat) (Option.some Jvm.ClassFile.FieldType.int)) ∈ xT := xT_in 1371 (by decide +kernel) rfl
theorem tw_1372 : (Jvm.Cond.methodLink "UnitKitchensModel" (206 : Nat) ({ cls := "UnitKitchensModel", name := "unitNow", desc := "(II)I" } : Jvm.MethodName)) ∈ xT := xT_in 1372 (by decide +kernel) rfl
theorem tw_1374 : (Jvm.Cond.instanceMethod ({ cls := "UnitKitchensModel", name := "unitNow", desc := "(II)I" } : Jvm.MethodName)) ∈ xT := xT_in 1374 (by decide +kernel) rfl
theorem tw_1375 : (Jvm.Cond.code ({ cls := "UnitKitchensModel", name := "unitNow", desc := "(II)I" } : Jvm.MethodName) prog_10_method_74_code (3 : Nat) (Option.some Jvm.ClassFile.FieldType.int)) ∈ xT := xT_in 1375 (by decide +kernel) rfl
theorem tw_1376 : (Jvm.Cond.methodLink "UnitKitchensLaw" (193 : Nat) ({ cls := "UnitKitchensModel", name := "kitchen", desc := "(II)I" } : Jvm.MethodName)) ∈ xT := xT_in 1376 (by decide +kernel) rfl
theorem tw_1377 : (Jvm.Cond.instanceMethod ({ cls := "UnitKitchensModel", name := "kitchen", desc := "(II)I" } : Jvm.MethodName)) ∈ xT := xT_in 1377 (by decide +kernel) rfl
theorem tw_1378 : (Jvm.Cond.selects "UnitKitchensModel" ({ cls := "UnitKitchensModel", name := "kitchen", desc := "(II)I" } : Jvm.MethodName) ({ cls := "UnitKitchensModel", name := "kitchen", desc := "(II)I" } : Jvm.MethodName)) ∈ xT := xT_in 1378 (by decide +kernel) rfl
theorem tw_1379 : (Jvm.Cond.code ({ cls := "UnitKitchensModel", name := "kitchen", desc := "(II)I" } : Jvm.MethodName) prog_10_method_77_code (3 : Nat) (Option.some Jvm.ClassFile.FieldType.int)) ∈ xT := xT_in 1379 (by decide +kernel) rfl
theorem tw_1380 : (Jvm.Cond.methodLink "UnitKitchensModel" (212 : Nat) ({ cls := "UnitKitchensModel", name := "kitchenNow", desc := "(II)I" } : Jvm.MethodName)) ∈ xT := xT_in 1380 (by decide +kernel) rfl
theorem tw_1382 : (Jvm.Cond.instanceMethod ({ cls := "UnitKitchensModel", name := "kitchenNow", desc := "(II)I" } : Jvm.MethodName)) ∈ xT := xT_in 1382 (by decide +kernel) rfl
theorem tw_1383 : (Jvm.Cond.code ({ cls := "UnitKitchensModel", name := "kitchenNow", desc := "(II)I" } : Jvm.MethodName) prog_10_method_76_code (3 : Nat) (Option.some Jvm.ClassFile.FieldType.int)) ∈ xT := xT_in 1383 (by decide +kernel) rfl
theorem tw_1384 : (Jvm.Cond.methodLink "UnitKitchensModel" (209 : Nat) ({ cls := "UnitKitchensModel", name := "oldestIn", desc := "(I)I" } : Jvm.MethodName)) ∈ xT := xT_in 1384 (by decide +kernel) rfl
theorem tw_1386 : (Jvm.Cond.instanceMethod ({ cls := "UnitKitchensModel", name := "oldestIn", desc := "(I)I" } : Jvm.MethodName)) ∈ xT := xT_in 1386 (by decide +kernel) rfl
theorem tw_1387 : (Jvm.Cond.code ({ cls := "UnitKitchensModel", name := "oldestIn", desc := "(I)I" } : Jvm.MethodName) prog_10_method_14_code (3 : Nat) (Option.some Jvm.ClassFile.FieldType.int)) ∈ xT := xT_in 1387 (by decide +kernel) rfl
theorem tw_1388 : (Jvm.Cond.methodLink "UnitKitchensLaw" (196 : Nat) ({ cls := "UnitKitchensModel", name := "lorry", desc := "(II)I" } : Jvm.MethodName)) ∈ xT := xT_in 1388 (by decide +kernel) rfl
theorem tw_1389 : (Jvm.Cond.instanceMethod ({ cls := "UnitKitchensModel", name := "lorry", desc := "(II)I" } : Jvm.MethodName)) ∈ xT := xT_in 1389 (by decide +kernel) rfl
theorem tw_1390 : (Jvm.Cond.selects "UnitKitchensModel" ({ cls := "UnitKitchensModel", name := "lorry", desc := "(II)I" } : Jvm.MethodName) ({ cls := "UnitKitchensModel", name := "lorry", desc := "(II)I" } : Jvm.MethodName)) ∈ xT := xT_in 1390 (by decide +kernel) rfl
theorem tw_1391 : (Jvm.Cond.code ({ cls := "UnitKitchensModel", name := "lorry", desc := "(II)I" } : Jvm.MethodName) prog_10_method_79_code (3 : Nat) (Option.some Jvm.ClassFile.FieldType.int)) ∈ xT := xT_in 1391 (by decide +kernel) rfl
theorem tw_1392 : (Jvm.Cond.methodLink "UnitKitchensModel" (215 : Nat) ({ cls := "UnitKitchensModel", name := "lorryNow", desc := "(II)I" } : Jvm.MethodName)) ∈ xT := xT_in 1392 (by decide +kernel) rfl
theorem tw_1394 : (Jvm.Cond.instanceMethod ({ cls := "UnitKitchensModel", name := "lorryNow", desc := "(II)I" } : Jvm.MethodName)) ∈ xT := xT_in 1394 (by decide +kernel) rfl
theorem tw_1395 : (Jvm.Cond.code ({ cls := "UnitKitchensModel", name := "lorryNow", desc := "(II)I" } : Jvm.MethodName) prog_10_method_78_code (3 : Nat) (Option.some Jvm.ClassFile.FieldType.int)) ∈ xT := xT_in 1395 (by decide +kernel) rfl
theorem tw_1396 : (Jvm.Cond.methodLink "UnitKitchensLaw" (199 : Nat) ({ cls := "UnitKitchensModel", name := "count", desc := "(I)I" } : Jvm.MethodName)) ∈ xT := xT_in 1396 (by decide +kernel) rfl
theorem tw_1397 : (Jvm.Cond.instanceMethod ({ cls := "UnitKitchensModel", name := "count", desc := "(I)I" } : Jvm.MethodName)) ∈ xT := xT_in 1397 (by decide +kernel) rfl
theorem tw_1398 : (Jvm.Cond.selects "UnitKitchensModel" ({ cls := "UnitKitchensModel", name := "count", desc := "(I)I" } : Jvm.MethodName) ({ cls := "UnitKitchensModel", name := "count", desc := "(I)I" } : Jvm.MethodName)) ∈ xT := xT_in 1398 (by decide +kernel) rfl
theorem tw_1399 : (Jvm.Cond.code ({ cls := "UnitKitchensModel", name := "count", desc := "(I)I" } : Jvm.MethodName) prog_10_method_83_code (2 : Nat) (Option.some Jvm.ClassFile.FieldType.int)) ∈ xT := xT_in 1399 (by decide +kernel) rfl
theorem tw_1400 : (Jvm.Cond.methodLink "UnitKitchensModel" (224 : Nat) ({ cls := "UnitKitchensModel", name := "counted", desc := "(I)I" } : Jvm.MethodName)) ∈ xT := xT_in 1400 (by decide +kernel) rfl
theorem tw_1402 : (Jvm.Cond.instanceMethod ({ cls := "UnitKitchensModel", name := "counted", desc := "(I)I" } : Jvm.MethodName)) ∈ xT := xT_in 1402 (by decide +kernel) rfl
theorem tw_1403 : (Jvm.Cond.code ({ cls := "UnitKitchensModel", name := "counted", desc := "(I)I" } : Jvm.MethodName) prog_10_method_82_code (2 : Nat) (Option.some Jvm.ClassFile.FieldType.int)) ∈ xT := xT_in 1403 (by decide +kernel) rfl
theorem tw_1404 : (Jvm.Cond.methodLink "UnitKitchensModel" (218 : Nat) ({ cls := "UnitKitchensModel", name := "sumOf", desc := "(I)I" } : Jvm.MethodName)) ∈ xT := xT_in 1404 (by decide +kernel) rfl
theorem tw_1406 : (Jvm.Cond.instanceMethod ({ cls := "UnitKitchensModel", name := "sumOf", desc := "(I)I" } : Jvm.MethodName)) ∈ xT := xT_in 1406 (by decide +kernel) rfl
theorem tw_1407 : (Jvm.Cond.code ({ cls := "UnitKitchensModel", name := "sumOf", desc := "(I)I" } : Jvm.MethodName) prog_10_method_80_code (4 : Nat) (Option.some Jvm.ClassFile.FieldType.int)) ∈ xT := xT_in 1407 (by decide +kernel) rfl
theorem tw_1408 : (Jvm.Cond.methodLink "UnitKitchensModel" (221 : Nat) ({ cls := "UnitKitchensModel", name := "mealsFrom", desc := "(II)I" } : Jvm.MethodName)) ∈ xT := xT_in 1408 (by decide +kernel) rfl
theorem tw_1410 : (Jvm.Cond.instanceMethod ({ cls := "UnitKitchensModel", name := "mealsFrom", desc := "(II)I" } : Jvm.MethodName)) ∈ xT := xT_in 1410 (by decide +kernel) rfl
theorem tw_1411 : (Jvm.Cond.code ({ cls := "UnitKitchensModel", name := "mealsFrom", desc := "(II)I" } : Jvm.MethodName) prog_10_method_81_code (5 : Nat) (Option.some Jvm.ClassFile.FieldType.int)) ∈ xT := xT_in 1411 (by decide +kernel) rfl
theorem tw_1412 : (Jvm.Cond.methodLink "UnitKitchensLaw" (202 : Nat) ({ cls := "UnitKitchensModel", name := "setting", desc := "(I)I" } : Jvm.MethodName)) ∈ xT := xT_in 1412 (by decide +kernel) rfl
theorem tw_1413 : (Jvm.Cond.instanceMethod ({ cls := "UnitKitchensModel", name := "setting", desc := "(I)I" } : Jvm.MethodName)) ∈ xT := xT_in 1413 (by decide +kernel) rfl
theorem tw_1414 : (Jvm.Cond.selects "UnitKitchensModel" ({ cls := "UnitKitchensModel", name := "setting", desc := "(I)I" } : Jvm.MethodName) ({ cls := "UnitKitchensModel", name := "setting", desc := "(I)I" } : Jvm.MethodName)) ∈ xT := xT_in 1414 (by decide +kernel) rfl
theorem tw_1415 : (Jvm.Cond.code ({ cls := "UnitKitchensModel", name := "setting", desc := "(I)I" } : Jvm.MethodName) prog_10_method_84_code (2 : Nat) (Option.some Jvm.ClassFile.FieldType.int)) ∈ xT := xT_in 1415 (by decide +kernel) rfl
theorem tw_1416 : (Jvm.Cond.methodLink "UnitKitchensLaw" (205 : Nat) ({ cls := "UnitKitchensModel", name := "ifPassed", desc := "(II)I" } : Jvm.MethodName)) ∈ xT := xT_in 1416 (by decide +kernel) rfl
theorem tw_1417 : (Jvm.Cond.instanceMethod ({ cls := "UnitKitchensModel", name := "ifPassed", desc := "(II)I" } : Jvm.MethodName)) ∈ xT := xT_in 1417 (by decide +kernel) rfl
theorem tw_1418 : (Jvm.Cond.selects "UnitKitchensModel" ({ cls := "UnitKitchensModel", name := "ifPassed", desc := "(II)I" } : Jvm.MethodName) ({ cls := "UnitKitchensModel", name := "ifPassed", desc := "(II)I" } : Jvm.MethodName)) ∈ xT := xT_in 1418 (by decide +kernel) rfl
theorem tw_1419 : (Jvm.Cond.code ({ cls := "UnitKitchensModel", name := "ifPassed", desc := "(II)I" } : Jvm.MethodName) prog_10_method_86_code (3 : Nat) (Option.some Jvm.ClassFile.FieldType.int)) ∈ xT := xT_in 1419 (by decide +kernel) rfl
theorem tw_1420 : (Jvm.Cond.methodLink "UnitKitchensModel" (227 : Nat) ({ cls := "UnitKitchensModel", name := "wouldDo", desc := "(II)I" } : Jvm.MethodName)) ∈ xT := xT_in 1420 (by decide +kernel) rfl
theorem tw_1422 : (Jvm.Cond.instanceMethod ({ cls := "UnitKitchensModel", name := "wouldDo", desc := "(II)I" } : Jvm.MethodName)) ∈ xT := xT_in 1422 (by decide +kernel) rfl
theorem tw_1423 : (Jvm.Cond.code ({ cls := "UnitKitchensModel", name := "wouldDo", desc := "(II)I" } : Jvm.MethodName) prog_10_method_85_code (6 : Nat) (Option.some Jvm.ClassFile.FieldType.int)) ∈ xT := xT_in 1423 (by decide +kernel) rfl
theorem tw_1424 : (Jvm.Cond.methodLink "UnitKitchensLaw" (208 : Nat) ({ cls := "UnitKitchensModel", name := "callsIn", desc := "(II)I" } : Jvm.MethodName)) ∈ xT := xT_in 1424 (by decide +kernel) rfl
theorem tw_1425 : (Jvm.Cond.instanceMethod ({ cls := "UnitKitchensModel", name := "callsIn", desc := "(II)I" } : Jvm.MethodName)) ∈ xT := xT_in 1425 (by decide +kernel) rfl
theorem tw_1426 : (Jvm.Cond.selects "UnitKitchensModel" ({ cls := "UnitKitchensModel", name := "callsIn", desc := "(II)I" } : Jvm.MethodName) ({ cls := "UnitKitchensModel", name := "callsIn", desc := "(II)I" } : Jvm.MethodName)) ∈ xT := xT_in 1426 (by decide +kernel) rfl
theorem tw_1427 : (Jvm.Cond.code ({ cls := "UnitKitchensModel", name := "callsIn", desc := "(II)I" } : Jvm.MethodName) prog_10_method_88_code (3 : Nat) (Option.some Jvm.ClassFile.FieldType.int)) ∈ xT := xT_in 1427 (by decide +kernel) rfl
theorem tw_1428 : (Jvm.Cond.methodLink "UnitKitchensModel" (230 : Nat) ({ cls := "UnitKitchensModel", name := "callsNow", desc := "(II)I" } : Jvm.MethodName)) ∈ xT := xT_in 1428 (by decide +kernel) rfl
theorem tw_1430 : (Jvm.Cond.instanceMethod ({ cls := "UnitKitchensModel", name := "callsNow", desc := "(II)I" } : Jvm.MethodName)) ∈ xT := xT_in 1430 (by decide +kernel) rfl
theorem tw_1431 : (Jvm.Cond.code ({ cls := "UnitKitchensModel", name := "callsNow", desc := "(II)I" } : Jvm.MethodName) prog_10_method_87_code (8 : Nat) (Option.some Jvm.ClassFile.FieldType.int)) ∈ xT := xT_in 1431 (by decide +kernel) rfl
theorem tw_1432 : (Jvm.Cond.methodLink "UnitKitchensLaw" (211 : Nat) ({ cls := "UnitKitchensModel", name := "canCook", desc := "(II)I" } : Jvm.MethodName)) ∈ xT := xT_in 1432 (by decide +kernel) rfl
theorem tw_1433 : (Jvm.Cond.instanceMethod ({ cls := "UnitKitchensModel", name := "canCook", desc := "(II)I" } : Jvm.MethodName)) ∈ xT := xT_in 1433 (by decide +kernel) rfl
theorem tw_1434 : (Jvm.Cond.selects "UnitKitchensModel" ({ cls := "UnitKitchensModel", name := "canCook", desc := "(II)I" } : Jvm.MethodName) ({ cls := "UnitKitchensModel", name := "canCook", desc := "(II)I" } : Jvm.MethodName)) ∈ xT := xT_in 1434 (by decide +kernel) rfl
theorem tw_1435 : (Jvm.Cond.code ({ cls := "UnitKitchensModel", name := "canCook", desc := "(II)I" } : Jvm.MethodName) prog_10_method_89_code (3 : Nat) (Option.some Jvm.ClassFile.FieldType.int)) ∈ xT := xT_in 1435 (by decide +kernel) rfl
theorem tw_1436 : (Jvm.Cond.methodLink "UnitKitchensLaw" (214 : Nat) ({ cls := "UnitKitchensModel", name := "bestLorry", desc := "(I)I" } : Jvm.MethodName)) ∈ xT := xT_in 1436 (by decide +kernel) rfl
theorem tw_1437 : (Jvm.Cond.instanceMethod ({ cls := "UnitKitchensModel", name := "bestLorry", desc := "(I)I" } : Jvm.MethodName)) ∈ xT := xT_in 1437 (by decide +kernel) rfl
theorem tw_1438 : (Jvm.Cond.selects "UnitKitchensModel" ({ cls := "UnitKitchensModel", name := "bestLorry", desc := "(I)I" } : Jvm.MethodName) ({ cls := "UnitKitchensModel", name := "bestLorry", desc := "(I)I" } : Jvm.MethodName)) ∈ xT := xT_in 1438 (by decide +kernel) rfl
theorem tw_1439 : (Jvm.Cond.code ({ cls := "UnitKitchensModel", name := "bestLorry", desc := "(I)I" } : Jvm.MethodName) prog_10_method_92_code (2 : Nat) (Option.some Jvm.ClassFile.FieldType.int)) ∈ xT := xT_in 1439 (by decide +kernel) rfl
theorem tw_1440 : (Jvm.Cond.methodLink "UnitKitchensModel" (236 : Nat) ({ cls := "UnitKitchensModel", name := "lorryFor", desc := "(I)I" } : Jvm.MethodName)) ∈ xT := xT_in 1440 (by decide +kernel) rfl
theorem tw_1442 : (Jvm.Cond.instanceMethod ({ cls := "UnitKitchensModel", name := "lorryFor", desc := "(I)I" } : Jvm.MethodName)) ∈ xT := xT_in 1442 (by decide +kernel) rfl
theorem tw_1443 : (Jvm.Cond.code ({ cls := "UnitKitchensModel", name := "lorryFor", desc := "(I)I" } : Jvm.MethodName) prog_10_method_91_code (9 : Nat) (Option.some Jvm.ClassFile.FieldType.int)) ∈ xT := xT_in 1443 (by decide +kernel) rfl
theorem tw_1444 : (Jvm.Cond.methodLink "UnitKitchensModel" (233 : Nat) ({ cls := "UnitKitchensModel", name := "eatenBy", desc := "(II)I" } : Jvm.MethodName)) ∈ xT := xT_in 1444 (by decide +kernel) rfl
theorem tw_1446 : (Jvm.Cond.instanceMethod ({ cls := "UnitKitchensModel", name := "eatenBy", desc := "(II)I" } : Jvm.MethodName)) ∈ xT := xT_in 1446 (by decide +kernel) rfl
theorem tw_1447 : (Jvm.Cond.code ({ cls := "UnitKitchensModel", name := "eatenBy", desc := "(II)I" } : Jvm.MethodName) prog_10_method_90_code (5 : Nat) (Option.some Jvm.ClassFile.FieldType.int)) ∈ xT := xT_in 1447 (by decide +kernel) rfl
theorem tw_1448 : (Jvm.Cond.methodLink "UnitKitchensLaw" (217 : Nat) ({ cls := "UnitKitchensModel", name := "enoughGrace", desc := "(I)I" } : Jvm.MethodName)) ∈ xT := xT_in 1448 (by decide +kernel) rfl
theorem tw_1449 : (Jvm.Cond.instanceMethod ({ cls := "UnitKitchensModel", name := "enoughGrace", desc := "(I)I" } : Jvm.MethodName)) ∈ xT := xT_in 1449 (by decide +kernel) rfl
theorem tw_1450 : (Jvm.Cond.selects "UnitKitchensModel" ({ cls := "UnitKitchensModel", name := "enoughGrace", desc := "(I)I" } : Jvm.MethodName) ({ cls := "UnitKitchensModel", name := "enoughGrace", desc := "(I)I" } : Jvm.MethodName)) ∈ xT := xT_in 1450 (by decide +kernel) rfl
theorem tw_1451 : (Jvm.Cond.code ({ cls := "UnitKitchensModel", name := "enoughGrace", desc := "(I)I" } : Jvm.MethodName) prog_10_method_94_code (2 : Nat) (Option.some Jvm.ClassFile.FieldType.int)) ∈ xT := xT_in 1451 (by decide +kernel) rfl
theorem tw_1452 : (Jvm.Cond.methodLink "UnitKitchensModel" (239 : Nat) ({ cls := "UnitKitchensModel", name := "graceFor", desc := "(I)I" } : Jvm.MethodName)) ∈ xT := xT_in 1452 (by decide +kernel) rfl
theorem tw_1454 : (Jvm.Cond.instanceMethod ({ cls := "UnitKitchensModel", name := "graceFor", desc := "(I)I" } : Jvm.MethodName)) ∈ xT := xT_in 1454 (by decide +kernel) rfl
theorem tw_1455 : (Jvm.Cond.code ({ cls := "UnitKitchensModel", name := "graceFor", desc := "(I)I" } : Jvm.MethodName) prog_10_method_93_code (3 : Nat) (Option.some Jvm.ClassFile.FieldType.int)) ∈ xT := xT_in 1455 (by decide +kernel) rfl
theorem tw_1456 : (Jvm.Cond.methodLink "UnitKitchensLaw" (222 : Nat) ({ cls := "UnitKitchensModel", name := "servedShare", desc := "()D" } : Jvm.MethodName)) ∈ xT := xT_in 1456 (by decide +kernel) rfl
theorem tw_1457 : (Jvm.Cond.instanceMethod ({ cls := "UnitKitchensModel", name := "servedShare", desc := "()D" } : Jvm.MethodName)) ∈ xT := xT_in 1457 (by decide +kernel) rfl
theorem tw_1458 : (Jvm.Cond.selects "UnitKitchensModel" ({ cls := "UnitKitchensModel", name := "servedShare", desc := "()D" } : Jvm.MethodName) ({ cls := "UnitKitchensModel", name := "servedShare", desc := "()D" } : Jvm.MethodName)) ∈ xT := xT_in 1458 (by decide +kernel) rfl
theorem tw_1459 : (Jvm.Cond.code ({ cls := "UnitKitchensModel", name := "servedShare", desc := "()D" } : Jvm.MethodName) prog_10_method_96_code (1 : Nat) (Option.some Jvm.ClassFile.FieldType.double)) ∈ xT := xT_in 1459 (by decide +kernel) rfl
theorem tw_1460 : (Jvm.Cond.methodLink "UnitKitchensModel" (242 : Nat) ({ cls := "UnitKitchensModel", name := "share", desc := "()D" } : Jvm.MethodName)) ∈ xT := xT_in 1460 (by decide +kernel) rfl
theorem tw_1462 : (Jvm.Cond.instanceMethod ({ cls := "UnitKitchensModel", name := "share", desc := "()D" } : Jvm.MethodName)) ∈ xT := xT_in 1462 (by decide +kernel) rfl
theorem tw_1463 : (Jvm.Cond.code ({ cls := "UnitKitchensModel", name := "share", desc := "()D" } : Jvm.MethodName) prog_10_method_95_code (1 : Nat) (Option.some Jvm.ClassFile.FieldType.double)) ∈ xT := xT_in 1463 (by decide +kernel) rfl
theorem tw_1464 : (Jvm.Cond.methodLink "UnitKitchensLaw" (227 : Nat) ({ cls := "UnitKitchensModel", name := "digest", desc := "()J" } : Jvm.MethodName)) ∈ xT := xT_in 1464 (by decide +kernel) rfl
theorem tw_1465 : (Jvm.Cond.instanceMethod ({ cls := "UnitKitchensModel", name := "digest", desc := "()J" } : Jvm.MethodName)) ∈ xT := xT_in 1465 (by decide +kernel) rfl
theorem tw_1466 : (Jvm.Cond.selects "UnitKitchensModel" ({ cls := "UnitKitchensModel", name := "digest", desc := "()J" } : Jvm.MethodName) ({ cls := "UnitKitchensModel", name := "digest", desc := "()J" } : Jvm.MethodName)) ∈ xT := xT_in 1466 (by decide +kernel) rfl
theorem tw_1467 : (Jvm.Cond.code ({ cls := "UnitKitchensModel", name := "digest", desc := "()J" } : Jvm.MethodName) prog_10_method_100_code (2 : Nat) (Option.some Jvm.ClassFile.FieldType.long)) ∈ xT := xT_in 1467 (by decide +kernel) rfl
theorem tw_1468 : (Jvm.Cond.constantLong "UnitKitchensModel" (256 : Nat) (2389 : Int64)) ∈ xT := xT_in 1468 (by decide +kernel) rfl
theorem tw_1469 : (Jvm.Cond.methodLink "UnitKitchensModel" (252 : Nat) ({ cls := "UnitKitchensModel", name := "mix", desc := "(J)V" } : Jvm.MethodName)) ∈ xT := xT_in 1469 (by decide +kernel) rfl
theorem tw_1471 : (Jvm.Cond.instanceMethod ({ cls := "UnitKitchensModel", name := "mix", desc := "(J)V" } : Jvm.MethodName)) ∈ xT := xT_in 1471 (by decide +kernel) rfl
theorem tw_1472 : (Jvm.Cond.code ({ cls := "UnitKitchensModel", name := "mix", desc := "(J)V" } : Jvm.MethodName) prog_10_method_97_code (3 : Nat) (Option.none : Option Jvm.ClassFile.FieldType)) ∈ xT := xT_in 1472 (by decide +kernel) rfl
theorem tw_1473 : (Jvm.Cond.constantLong "UnitKitchensModel" (246 : Nat) (31 : Int64)) ∈ xT := xT_in 1473 (by decide +kernel) rfl
theorem tw_1474 : (Jvm.Cond.methodLink "UnitKitchensModel" (258 : Nat) ({ cls := "UnitKitchensModel", name := "mixUnits", desc := "()V" } : Jvm.MethodName)) ∈ xT := xT_in 1474 (by decide +kernel) rfl
theorem tw_1476 : (Jvm.Cond.instanceMethod ({ cls := "UnitKitchensModel", name := "mixUnits", desc := "()V" } : Jvm.MethodName)) ∈ xT := xT_in 1476 (by decide +kernel) rfl
theorem tw_1477 : (Jvm.Cond.code ({ cls := "UnitKitchensModel", name := "mixUnits", desc := "()V" } : Jvm.MethodName) prog_10_method_98_code (3 : Nat) (Option.none : Option Jvm.ClassFile.FieldType)) ∈ xT := xT_in 1477 (by decide +kernel) rfl
theorem tw_1478 : (Jvm.Cond.methodLink "UnitKitchensModel" (261 : Nat) ({ cls := "UnitKitchensModel", name := "mixStores", desc := "()V" } : Jvm.MethodName)) ∈ xT := xT_in 1478 (by decide +kernel) rfl
theorem tw_1480 : (Jvm.Cond.instanceMethod ({ cls := "UnitKitchensModel", name := "mixStores", desc := "()V" } : Jvm.MethodName)) ∈ xT := xT_in 1480 (by decide +kernel) rfl
theorem tw_1481 : (Jvm.Cond.code ({ cls := "UnitKitchensModel", name := "mixStores", desc := "()V" } : Jvm.MethodName) prog_10_method_99_code (3 : Nat) (Option.none : Option Jvm.ClassFile.FieldType)) ∈ xT := xT_in 1481 (by decide +kernel) rfl
theorem tw_1482 : (Jvm.Cond.methodLink "UnitKitchensModel" (264 : Nat) ({ cls := "java/lang/Double", name := "doubleToLongBits", desc := "(D)J" } : Jvm.MethodName)) ∈ xT := xT_in 1482 (by decide +kernel) rfl
theorem tw_1483 : (Jvm.Cond.static ({ cls := "java/lang/Double", name := "doubleToLongBits", desc := "(D)J" } : Jvm.MethodName)) ∈ xT := xT_in 1483 (by decide +kernel) rfl
theorem tw_1484 : (Jvm.Cond.code ({ cls := "java/lang/Double", name := "doubleToLongBits", desc := "(D)J" } : Jvm.MethodName) prog_12_method_23_code (2 : Nat) (Option.some Jvm.ClassFile.FieldType.long)) ∈ xT := xT_in 1484 (by decide +kernel) rfl
theorem tw_1485 : (Jvm.Cond.methodLink "java/lang/Double" (122 : Nat) ({ cls := "java/lang/Double", name := "isNaN", desc := "(D)Z" } : Jvm.MethodName)) ∈ xT := xT_in 1485 (by decide +kernel) rfl
theorem tw_1486 : (Jvm.Cond.static ({ cls := "java/lang/Double", name := "isNaN", desc := "(D)Z" } : Jvm.MethodName)) ∈ xT := xT_in 1486 (by decide +kernel) rfl
theorem tw_1487 : (Jvm.Cond.code ({ cls := "java/lang/Double", name := "isNaN", desc := "(D)Z" } : Jvm.MethodName) prog_12_method_6_code (2 : Nat) (Option.some Jvm.ClassFile.FieldType.boolean)) ∈ xT := xT_in 1487 (by decide +kernel) rfl
theorem tw_1488 : (Jvm.Cond.methodLink "java/lang/Double" (134 : Nat) ({ cls := "java/lang/Double", name := "doubleToRawLongBits", desc := "(D)J" } : Jvm.MethodName)) ∈ xT := xT_in 1488 (by decide +kernel) rfl
theorem tw_1489 : (Jvm.Cond.static ({ cls := "java/lang/Double", name := "doubleToRawLongBits", desc := "(D)J" } : Jvm.MethodName)) ∈ xT := xT_in 1489 (by decide +kernel) rfl
theorem tw_1490 : (Jvm.Cond.native ({ cls := "java/lang/Double", name := "doubleToRawLongBits", desc := "(D)J" } : Jvm.MethodName)) ∈ xT := xT_in 1490 (by decide +kernel) rfl
theorem tw_1491 : (Jvm.Cond.constantLong "java/lang/Double" (137 : Nat) (9221120237041090560 : Int64)) ∈ xT := xT_in 1491 (by decide +kernel) rfl
theorem tw_1492 : (Jvm.Cond.arrayClass Jvm.ClassFile.FieldType.long) ∈ xT := xT_in 1492 (by decide +kernel) rfl
theorem tp_0 : Cond.selects "java/lang/Throwable" ⟨"java/lang/Throwable", "fillInStackTrace", "(I)Ljava/lang/Throwable;"⟩ ⟨"java/lang/Throwable", "fillInStackTrace", "(I)Ljava/lang/Throwable;"⟩ ∈ xT := xT_inp 0 (by decide +kernel) rfl
theorem tp_1 : Cond.selects "UnitKitchens" ⟨"UnitKitchens", "hashPlaces", "(J)J"⟩ ⟨"UnitKitchens", "hashPlaces", "(J)J"⟩ ∈ xT := xT_inp 1 (by decide +kernel) rfl
theorem tp_2 : Cond.selects "UnitKitchens" ⟨"UnitKitchens", "hashUnits", "(J)J"⟩ ⟨"UnitKitchens", "hashUnits", "(J)J"⟩ ∈ xT := xT_inp 2 (by decide +kernel) rfl
theorem tp_3 : Cond.selects "UnitKitchens" ⟨"UnitKitchens", "hashKitchens", "(J)J"⟩ ⟨"UnitKitchens", "hashKitchens", "(J)J"⟩ ∈ xT := xT_inp 3 (by decide +kernel) rfl
theorem tp_4 : Cond.selects "UnitKitchens" ⟨"UnitKitchens", "hashLorries", "(J)J"⟩ ⟨"UnitKitchens", "hashLorries", "(J)J"⟩ ∈ xT := xT_inp 4 (by decide +kernel) rfl
theorem tp_5 : Cond.selects "UnitKitchens" ⟨"UnitKitchens", "lookAhead", "(I)V"⟩ ⟨"UnitKitchens", "lookAhead", "(I)V"⟩ ∈ xT := xT_inp 5 (by decide +kernel) rfl
theorem tp_6 : Cond.selects "UnitKitchens" ⟨"UnitKitchens", "forecast", "(I)I"⟩ ⟨"UnitKitchens", "forecast", "(I)I"⟩ ∈ xT := xT_inp 6 (by decide +kernel) rfl
theorem tp_7 : Cond.selects "UnitKitchens" ⟨"UnitKitchens", "leastGrace", "(I)I"⟩ ⟨"UnitKitchens", "leastGrace", "(I)I"⟩ ∈ xT := xT_inp 7 (by decide +kernel) rfl
theorem tp_8 : Cond.selects "UnitKitchens" ⟨"UnitKitchens", "addUnitsOfSheet", "()I"⟩ ⟨"UnitKitchens", "addUnitsOfSheet", "()I"⟩ ∈ xT := xT_inp 8 (by decide +kernel) rfl
theorem tp_9 : Cond.selects "UnitKitchens" ⟨"UnitKitchens", "mayAddReadUnit", "()Z"⟩ ⟨"UnitKitchens", "mayAddReadUnit", "()Z"⟩ ∈ xT := xT_inp 9 (by decide +kernel) rfl
theorem tp_10 : Cond.selects "UnitKitchensModel" ⟨"UnitKitchensModel", "save", "()V"⟩ ⟨"UnitKitchensModel", "save", "()V"⟩ ∈ xT := xT_inp 10 (by decide +kernel) rfl
theorem tp_11 : Cond.selects "UnitKitchensModel" ⟨"UnitKitchensModel", "isPlace", "(I)Z"⟩ ⟨"UnitKitchensModel", "isPlace", "(I)Z"⟩ ∈ xT := xT_inp 11 (by decide +kernel) rfl
theorem tp_12 : Cond.selects "UnitKitchensModel" ⟨"UnitKitchensModel", "isKitchen", "(I)Z"⟩ ⟨"UnitKitchensModel", "isKitchen", "(I)Z"⟩ ∈ xT := xT_inp 12 (by decide +kernel) rfl
theorem tp_13 : Cond.selects "UnitKitchensModel" ⟨"UnitKitchensModel", "enoughFor", "(II)I"⟩ ⟨"UnitKitchensModel", "enoughFor", "(II)I"⟩ ∈ xT := xT_inp 13 (by decide +kernel) rfl
theorem tp_14 : Cond.selects "UnitKitchensModel" ⟨"UnitKitchensModel", "isLorry", "(I)Z"⟩ ⟨"UnitKitchensModel", "isLorry", "(I)Z"⟩ ∈ xT := xT_inp 14 (by decide +kernel) rfl
theorem tp_15 : Cond.selects "UnitKitchensModel" ⟨"UnitKitchensModel", "isAt", "(II)Z"⟩ ⟨"UnitKitchensModel", "isAt", "(II)Z"⟩ ∈ xT := xT_inp 15 (by decide +kernel) rfl
theorem tp_16 : Cond.selects "UnitKitchensModel" ⟨"UnitKitchensModel", "stands", "(I)Z"⟩ ⟨"UnitKitchensModel", "stands", "(I)Z"⟩ ∈ xT := xT_inp 16 (by decide +kernel) rfl
theorem tp_17 : Cond.selects "UnitKitchensModel" ⟨"UnitKitchensModel", "mealsIn", "(II)I"⟩ ⟨"UnitKitchensModel", "mealsIn", "(II)I"⟩ ∈ xT := xT_inp 17 (by decide +kernel) rfl
theorem tp_18 : Cond.selects "UnitKitchensModel" ⟨"UnitKitchensModel", "allIn", "(I)I"⟩ ⟨"UnitKitchensModel", "allIn", "(I)I"⟩ ∈ xT := xT_inp 18 (by decide +kernel) rfl
theorem tp_19 : Cond.selects "UnitKitchensModel" ⟨"UnitKitchensModel", "firstMinute", "()I"⟩ ⟨"UnitKitchensModel", "firstMinute", "()I"⟩ ∈ xT := xT_inp 19 (by decide +kernel) rfl
theorem tp_20 : Cond.selects "UnitKitchensModel" ⟨"UnitKitchensModel", "driveBetween", "(II)I"⟩ ⟨"UnitKitchensModel", "driveBetween", "(II)I"⟩ ∈ xT := xT_inp 20 (by decide +kernel) rfl
theorem tp_21 : Cond.selects "UnitKitchensModel" ⟨"UnitKitchensModel", "refusedUnit", "(IIIII)I"⟩ ⟨"UnitKitchensModel", "refusedUnit", "(IIIII)I"⟩ ∈ xT := xT_inp 21 (by decide +kernel) rfl
theorem tp_22 : Cond.selects "UnitKitchensModel" ⟨"UnitKitchensModel", "putUnit", "(IIIII)I"⟩ ⟨"UnitKitchensModel", "putUnit", "(IIIII)I"⟩ ∈ xT := xT_inp 22 (by decide +kernel) rfl
theorem tp_23 : Cond.selects "UnitKitchensModel" ⟨"UnitKitchensModel", "setUnit", "(III)V"⟩ ⟨"UnitKitchensModel", "setUnit", "(III)V"⟩ ∈ xT := xT_inp 23 (by decide +kernel) rfl
theorem tp_24 : Cond.selects "UnitKitchensModel" ⟨"UnitKitchensModel", "isUnit", "(I)Z"⟩ ⟨"UnitKitchensModel", "isUnit", "(I)Z"⟩ ∈ xT := xT_inp 24 (by decide +kernel) rfl
theorem tp_25 : Cond.selects "UnitKitchensModel" ⟨"UnitKitchensModel", "canSplit", "(III)Z"⟩ ⟨"UnitKitchensModel", "canSplit", "(III)Z"⟩ ∈ xT := xT_inp 25 (by decide +kernel) rfl
theorem tp_26 : Cond.selects "UnitKitchensModel" ⟨"UnitKitchensModel", "ofUnit", "(II)I"⟩ ⟨"UnitKitchensModel", "ofUnit", "(II)I"⟩ ∈ xT := xT_inp 26 (by decide +kernel) rfl
theorem tp_27 : Cond.selects "UnitKitchensModel" ⟨"UnitKitchensModel", "works", "(I)Z"⟩ ⟨"UnitKitchensModel", "works", "(I)Z"⟩ ∈ xT := xT_inp 27 (by decide +kernel) rfl
theorem tp_28 : Cond.selects "UnitKitchensModel" ⟨"UnitKitchensModel", "addTo", "(III)V"⟩ ⟨"UnitKitchensModel", "addTo", "(III)V"⟩ ∈ xT := xT_inp 28 (by decide +kernel) rfl
theorem tp_29 : Cond.selects "UnitKitchensModel" ⟨"UnitKitchensModel", "canJoin", "(II)Z"⟩ ⟨"UnitKitchensModel", "canJoin", "(II)Z"⟩ ∈ xT := xT_inp 29 (by decide +kernel) rfl
theorem tp_30 : Cond.selects "UnitKitchensModel" ⟨"UnitKitchensModel", "owedTo", "(I)I"⟩ ⟨"UnitKitchensModel", "owedTo", "(I)I"⟩ ∈ xT := xT_inp 30 (by decide +kernel) rfl
theorem tp_31 : Cond.selects "UnitKitchensModel" ⟨"UnitKitchensModel", "go", "(I)I"⟩ ⟨"UnitKitchensModel", "go", "(I)I"⟩ ∈ xT := xT_inp 31 (by decide +kernel) rfl
theorem tp_32 : Cond.selects "UnitKitchensModel" ⟨"UnitKitchensModel", "minute", "()V"⟩ ⟨"UnitKitchensModel", "minute", "()V"⟩ ∈ xT := xT_inp 32 (by decide +kernel) rfl
theorem tp_33 : Cond.selects "UnitKitchensModel" ⟨"UnitKitchensModel", "clearMinute", "()V"⟩ ⟨"UnitKitchensModel", "clearMinute", "()V"⟩ ∈ xT := xT_inp 33 (by decide +kernel) rfl
theorem tp_34 : Cond.selects "UnitKitchensModel" ⟨"UnitKitchensModel", "moveLorries", "()V"⟩ ⟨"UnitKitchensModel", "moveLorries", "()V"⟩ ∈ xT := xT_inp 34 (by decide +kernel) rfl
theorem tp_35 : Cond.selects "UnitKitchensModel" ⟨"UnitKitchensModel", "cookAll", "()V"⟩ ⟨"UnitKitchensModel", "cookAll", "()V"⟩ ∈ xT := xT_inp 35 (by decide +kernel) rfl
theorem tp_36 : Cond.selects "UnitKitchensModel" ⟨"UnitKitchensModel", "throwAway", "()V"⟩ ⟨"UnitKitchensModel", "throwAway", "()V"⟩ ∈ xT := xT_inp 36 (by decide +kernel) rfl
theorem tp_37 : Cond.selects "UnitKitchensModel" ⟨"UnitKitchensModel", "callAll", "()V"⟩ ⟨"UnitKitchensModel", "callAll", "()V"⟩ ∈ xT := xT_inp 37 (by decide +kernel) rfl
theorem tp_38 : Cond.selects "UnitKitchensModel" ⟨"UnitKitchensModel", "serveAll", "()V"⟩ ⟨"UnitKitchensModel", "serveAll", "()V"⟩ ∈ xT := xT_inp 38 (by decide +kernel) rfl
theorem tp_39 : Cond.selects "UnitKitchensModel" ⟨"UnitKitchensModel", "serve", "(III)V"⟩ ⟨"UnitKitchensModel", "serve", "(III)V"⟩ ∈ xT := xT_inp 39 (by decide +kernel) rfl
theorem tp_40 : Cond.selects "UnitKitchensModel" ⟨"UnitKitchensModel", "takes", "(III)I"⟩ ⟨"UnitKitchensModel", "takes", "(III)I"⟩ ∈ xT := xT_inp 40 (by decide +kernel) rfl
theorem tp_41 : Cond.selects "UnitKitchensModel" ⟨"UnitKitchensModel", "fine", "()V"⟩ ⟨"UnitKitchensModel", "fine", "()V"⟩ ∈ xT := xT_inp 41 (by decide +kernel) rfl
theorem tp_42 : Cond.selects "UnitKitchensModel" ⟨"UnitKitchensModel", "rightUpTo", "()I"⟩ ⟨"UnitKitchensModel", "rightUpTo", "()I"⟩ ∈ xT := xT_inp 42 (by decide +kernel) rfl
theorem tp_43 : Cond.selects "UnitKitchensModel" ⟨"UnitKitchensModel", "takes", "(I)Z"⟩ ⟨"UnitKitchensModel", "takes", "(I)Z"⟩ ∈ xT := xT_inp 43 (by decide +kernel) rfl
theorem tp_44 : Cond.selects "UnitKitchensModel" ⟨"UnitKitchensModel", "takesPlace", "(I)Z"⟩ ⟨"UnitKitchensModel", "takesPlace", "(I)Z"⟩ ∈ xT := xT_inp 44 (by decide +kernel) rfl
theorem tp_45 : Cond.selects "UnitKitchensModel" ⟨"UnitKitchensModel", "ends", "(I)Z"⟩ ⟨"UnitKitchensModel", "ends", "(I)Z"⟩ ∈ xT := xT_inp 45 (by decide +kernel) rfl
theorem tp_46 : Cond.selects "UnitKitchensModel" ⟨"UnitKitchensModel", "takesDigit", "(I)Z"⟩ ⟨"UnitKitchensModel", "takesDigit", "(I)Z"⟩ ∈ xT := xT_inp 46 (by decide +kernel) rfl
theorem tp_47 : Cond.selects "UnitKitchensModel" ⟨"UnitKitchensModel", "adds", "(I)Z"⟩ ⟨"UnitKitchensModel", "adds", "(I)Z"⟩ ∈ xT := xT_inp 47 (by decide +kernel) rfl
theorem tp_48 : Cond.selects "UnitKitchensModel" ⟨"UnitKitchensModel", "placeNow", "(II)I"⟩ ⟨"UnitKitchensModel", "placeNow", "(II)I"⟩ ∈ xT := xT_inp 48 (by decide +kernel) rfl
theorem tp_49 : Cond.selects "UnitKitchensModel" ⟨"UnitKitchensModel", "unitsAt", "(II)I"⟩ ⟨"UnitKitchensModel", "unitsAt", "(II)I"⟩ ∈ xT := xT_inp 49 (by decide +kernel) rfl
theorem tp_50 : Cond.selects "UnitKitchensModel" ⟨"UnitKitchensModel", "storesAt", "(II)I"⟩ ⟨"UnitKitchensModel", "storesAt", "(II)I"⟩ ∈ xT := xT_inp 50 (by decide +kernel) rfl
theorem tp_51 : Cond.selects "UnitKitchensModel" ⟨"UnitKitchensModel", "unitNow", "(II)I"⟩ ⟨"UnitKitchensModel", "unitNow", "(II)I"⟩ ∈ xT := xT_inp 51 (by decide +kernel) rfl
theorem tp_52 : Cond.selects "UnitKitchensModel" ⟨"UnitKitchensModel", "kitchenNow", "(II)I"⟩ ⟨"UnitKitchensModel", "kitchenNow", "(II)I"⟩ ∈ xT := xT_inp 52 (by decide +kernel) rfl
theorem tp_53 : Cond.selects "UnitKitchensModel" ⟨"UnitKitchensModel", "oldestIn", "(I)I"⟩ ⟨"UnitKitchensModel", "oldestIn", "(I)I"⟩ ∈ xT := xT_inp 53 (by decide +kernel) rfl
theorem tp_54 : Cond.selects "UnitKitchensModel" ⟨"UnitKitchensModel", "lorryNow", "(II)I"⟩ ⟨"UnitKitchensModel", "lorryNow", "(II)I"⟩ ∈ xT := xT_inp 54 (by decide +kernel) rfl
theorem tp_55 : Cond.selects "UnitKitchensModel" ⟨"UnitKitchensModel", "counted", "(I)I"⟩ ⟨"UnitKitchensModel", "counted", "(I)I"⟩ ∈ xT := xT_inp 55 (by decide +kernel) rfl
theorem tp_56 : Cond.selects "UnitKitchensModel" ⟨"UnitKitchensModel", "sumOf", "(I)I"⟩ ⟨"UnitKitchensModel", "sumOf", "(I)I"⟩ ∈ xT := xT_inp 56 (by decide +kernel) rfl
theorem tp_57 : Cond.selects "UnitKitchensModel" ⟨"UnitKitchensModel", "mealsFrom", "(II)I"⟩ ⟨"UnitKitchensModel", "mealsFrom", "(II)I"⟩ ∈ xT := xT_inp 57 (by decide +kernel) rfl
theorem tp_58 : Cond.selects "UnitKitchensModel" ⟨"UnitKitchensModel", "wouldDo", "(II)I"⟩ ⟨"UnitKitchensModel", "wouldDo", "(II)I"⟩ ∈ xT := xT_inp 58 (by decide +kernel) rfl
theorem tp_59 : Cond.selects "UnitKitchensModel" ⟨"UnitKitchensModel", "callsNow", "(II)I"⟩ ⟨"UnitKitchensModel", "callsNow", "(II)I"⟩ ∈ xT := xT_inp 59 (by decide +kernel) rfl
theorem tp_60 : Cond.selects "UnitKitchensModel" ⟨"UnitKitchensModel", "lorryFor", "(I)I"⟩ ⟨"UnitKitchensModel", "lorryFor", "(I)I"⟩ ∈ xT := xT_inp 60 (by decide +kernel) rfl
theorem tp_61 : Cond.selects "UnitKitchensModel" ⟨"UnitKitchensModel", "eatenBy", "(II)I"⟩ ⟨"UnitKitchensModel", "eatenBy", "(II)I"⟩ ∈ xT := xT_inp 61 (by decide +kernel) rfl
theorem tp_62 : Cond.selects "UnitKitchensModel" ⟨"UnitKitchensModel", "graceFor", "(I)I"⟩ ⟨"UnitKitchensModel", "graceFor", "(I)I"⟩ ∈ xT := xT_inp 62 (by decide +kernel) rfl
theorem tp_63 : Cond.selects "UnitKitchensModel" ⟨"UnitKitchensModel", "share", "()D"⟩ ⟨"UnitKitchensModel", "share", "()D"⟩ ∈ xT := xT_inp 63 (by decide +kernel) rfl
theorem tp_64 : Cond.selects "UnitKitchensModel" ⟨"UnitKitchensModel", "mix", "(J)V"⟩ ⟨"UnitKitchensModel", "mix", "(J)V"⟩ ∈ xT := xT_inp 64 (by decide +kernel) rfl
theorem tp_65 : Cond.selects "UnitKitchensModel" ⟨"UnitKitchensModel", "mixUnits", "()V"⟩ ⟨"UnitKitchensModel", "mixUnits", "()V"⟩ ∈ xT := xT_inp 65 (by decide +kernel) rfl
theorem tp_66 : Cond.selects "UnitKitchensModel" ⟨"UnitKitchensModel", "mixStores", "()V"⟩ ⟨"UnitKitchensModel", "mixStores", "()V"⟩ ∈ xT := xT_inp 66 (by decide +kernel) rfl
