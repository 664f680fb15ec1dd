theorem wd0 : (Jvm.Cond.selects "DataSets" ({ cls := "DataSets", name := "numberOf", desc := "(I)I" } : Jvm.MethodName) ({ cls := "DataSets", name := "numberOf", desc := "(I)I" } : Jvm.MethodName)) ∈ gTb := gTb_in 0 (by decide +kernel) rfl
theorem wd1 : (Jvm.Cond.selects "DataSets$Volume" ({ cls := "DataSets$Volume", name := "mark", desc := "(IIZ)V" } : Jvm.MethodName) ({ cls := "DataSets$Volume", name := "mark", desc := "(IIZ)V" } : Jvm.MethodName)) ∈ gTb := gTb_in 1 (by decide +kernel) rfl
theorem wd2 : (Jvm.Cond.selects "DataSets" ({ cls := "DataSets", name := "setOf", desc := "(I)LDataSets$DataSet;" } : Jvm.MethodName) ({ cls := "DataSets", name := "setOf", desc := "(I)LDataSets$DataSet;" } : Jvm.MethodName)) ∈ gTb := gTb_in 2 (by decide +kernel) rfl
theorem wd3 : (Jvm.Cond.selects "DataSets$Directory" ({ cls := "DataSets$Directory", name := "indexOf", desc := "(I)I" } : Jvm.MethodName) ({ cls := "DataSets$Directory", name := "indexOf", desc := "(I)I" } : Jvm.MethodName)) ∈ gTb := gTb_in 3 (by decide +kernel) rfl
theorem wd4 : (Jvm.Cond.selects "DataSets$Directory" ({ cls := "DataSets$Directory", name := "drop", desc := "(I)V" } : Jvm.MethodName) ({ cls := "DataSets$Directory", name := "drop", desc := "(I)V" } : Jvm.MethodName)) ∈ gTb := gTb_in 4 (by decide +kernel) rfl
theorem wd5 : (Jvm.Cond.selects "DataSets" ({ cls := "DataSets", name := "isInUse", desc := "(I)Z" } : Jvm.MethodName) ({ cls := "DataSets", name := "isInUse", desc := "(I)Z" } : Jvm.MethodName)) ∈ gTb := gTb_in 5 (by decide +kernel) rfl
theorem wd6 : (Jvm.Cond.selects "DataSets$Line" ({ cls := "DataSets$Line", name := "placeOf", desc := "(I)I" } : Jvm.MethodName) ({ cls := "DataSets$Line", name := "placeOf", desc := "(I)I" } : Jvm.MethodName)) ∈ gTb := gTb_in 6 (by decide +kernel) rfl
theorem wd7 : (Jvm.Cond.selects "DataSets$Line" lw_adm lw_adm) ∈ gTb := gTb_in 7 (by decide +kernel) rfl
theorem wd8 : (Jvm.Cond.selects "DataSets$Line" ({ cls := "DataSets$Line", name := "canHold", desc := "(Z)Z" } : Jvm.MethodName) ({ cls := "DataSets$Line", name := "canHold", desc := "(Z)Z" } : Jvm.MethodName)) ∈ gTb := gTb_in 8 (by decide +kernel) rfl
theorem wd9 : (Jvm.Cond.selects "DataSets" ({ cls := "DataSets", name := "countSets", desc := "()I" } : Jvm.MethodName) ({ cls := "DataSets", name := "countSets", desc := "()I" } : Jvm.MethodName)) ∈ gTb := gTb_in 9 (by decide +kernel) rfl
theorem wd10 : (Jvm.Cond.selects "DataSets" ({ cls := "DataSets", name := "countExtents", desc := "()I" } : Jvm.MethodName) ({ cls := "DataSets", name := "countExtents", desc := "()I" } : Jvm.MethodName)) ∈ gTb := gTb_in 10 (by decide +kernel) rfl
theorem wd11 : (Jvm.Cond.selects "DataSets" ({ cls := "DataSets", name := "countHoldings", desc := "()I" } : Jvm.MethodName) ({ cls := "DataSets", name := "countHoldings", desc := "()I" } : Jvm.MethodName)) ∈ gTb := gTb_in 11 (by decide +kernel) rfl
theorem wd12 : (Jvm.Cond.selects "DataSets" ({ cls := "DataSets", name := "countWaiting", desc := "()I" } : Jvm.MethodName) ({ cls := "DataSets", name := "countWaiting", desc := "()I" } : Jvm.MethodName)) ∈ gTb := gTb_in 12 (by decide +kernel) rfl
theorem wd13 : (Jvm.Cond.selects "DataSetsModel" ({ cls := "DataSetsModel", name := "named", desc := "(I)I" } : Jvm.MethodName) ({ cls := "DataSetsModel", name := "named", desc := "(I)I" } : Jvm.MethodName)) ∈ gTb := gTb_in 13 (by decide +kernel) rfl
theorem wd14 : (Jvm.Cond.selects "DataSetsModel" ({ cls := "DataSetsModel", name := "place", desc := "(I)I" } : Jvm.MethodName) ({ cls := "DataSetsModel", name := "place", desc := "(I)I" } : Jvm.MethodName)) ∈ gTb := gTb_in 14 (by decide +kernel) rfl
theorem wd15 : (Jvm.Cond.selects "DataSetsModel" ({ cls := "DataSetsModel", name := "take", desc := "(III)V" } : Jvm.MethodName) ({ cls := "DataSetsModel", name := "take", desc := "(III)V" } : Jvm.MethodName)) ∈ gTb := gTb_in 15 (by decide +kernel) rfl
theorem wd16 : (Jvm.Cond.selects "DataSetsModel" ({ cls := "DataSetsModel", name := "isSet", desc := "(I)Z" } : Jvm.MethodName) ({ cls := "DataSetsModel", name := "isSet", desc := "(I)Z" } : Jvm.MethodName)) ∈ gTb := gTb_in 16 (by decide +kernel) rfl
theorem wd17 : (Jvm.Cond.selects "DataSetsModel" ({ cls := "DataSetsModel", name := "memberOf", desc := "(II)I" } : Jvm.MethodName) ({ cls := "DataSetsModel", name := "memberOf", desc := "(II)I" } : Jvm.MethodName)) ∈ gTb := gTb_in 17 (by decide +kernel) rfl
theorem wd18 : (Jvm.Cond.selects "DataSetsModel" ({ cls := "DataSetsModel", name := "tracksOf", desc := "(I)I" } : Jvm.MethodName) ({ cls := "DataSetsModel", name := "tracksOf", desc := "(I)I" } : Jvm.MethodName)) ∈ gTb := gTb_in 18 (by decide +kernel) rfl
theorem wd19 : (Jvm.Cond.selects "DataSetsModel" ({ cls := "DataSetsModel", name := "isAsked", desc := "(I)Z" } : Jvm.MethodName) ({ cls := "DataSetsModel", name := "isAsked", desc := "(I)Z" } : Jvm.MethodName)) ∈ gTb := gTb_in 19 (by decide +kernel) rfl
theorem wd20 : (Jvm.Cond.selects "DataSetsModel" ({ cls := "DataSetsModel", name := "isAwaited", desc := "(I)Z" } : Jvm.MethodName) ({ cls := "DataSetsModel", name := "isAwaited", desc := "(I)Z" } : Jvm.MethodName)) ∈ gTb := gTb_in 20 (by decide +kernel) rfl
theorem wd21 : (Jvm.Cond.selects "DataSetsModel" ({ cls := "DataSetsModel", name := "can", desc := "(IZ)Z" } : Jvm.MethodName) ({ cls := "DataSetsModel", name := "can", desc := "(IZ)Z" } : Jvm.MethodName)) ∈ gTb := gTb_in 21 (by decide +kernel) rfl
theorem wd22 : (Jvm.Cond.selects "DataSetsModel" ({ cls := "DataSetsModel", name := "grant", desc := "(I)V" } : Jvm.MethodName) ({ cls := "DataSetsModel", name := "grant", desc := "(I)V" } : Jvm.MethodName)) ∈ gTb := gTb_in 22 (by decide +kernel) rfl
theorem wd23 : ((Jvm.Cond.initialized "DataSetsLaw")) ∈ gTb := gTb_in 23 (by decide +kernel) rfl
theorem wd24 : ((Jvm.Cond.initialized "DataSets")) ∈ gTb := gTb_in 24 (by decide +kernel) rfl
theorem wd25 : ((Jvm.Cond.initialized "DataSets$Volume")) ∈ gTb := gTb_in 25 (by decide +kernel) rfl
theorem wd26 : ((Jvm.Cond.initialized "java/lang/Math")) ∈ gTb := gTb_in 26 (by decide +kernel) rfl
theorem wd27 : ((Jvm.Cond.initialized "DataSetsModel")) ∈ gTb := gTb_in 27 (by decide +kernel) rfl
theorem wd28 : ((Jvm.Cond.initialized "DataSets$DataSet")) ∈ gTb := gTb_in 28 (by decide +kernel) rfl
theorem wd29 : ((Jvm.Cond.initialized "DataSets$Extents")) ∈ gTb := gTb_in 29 (by decide +kernel) rfl
theorem wd30 : ((Jvm.Cond.initialized "DataSets$Directory")) ∈ gTb := gTb_in 30 (by decide +kernel) rfl
theorem wd31 : ((Jvm.Cond.initialized "DataSets$Attributes")) ∈ gTb := gTb_in 31 (by decide +kernel) rfl
theorem wd32 : ((Jvm.Cond.initialized "DataSets$Line")) ∈ gTb := gTb_in 32 (by decide +kernel) rfl
theorem wd33 : ((Jvm.Cond.classLink "DataSetsLaw" (7 : Nat) "DataSets")) ∈ gTb := gTb_in 33 (by decide +kernel) rfl
theorem wd34 : ((Jvm.Cond.instantiable "DataSets" (4 : Nat))) ∈ gTb := gTb_in 34 (by decide +kernel) rfl
theorem wd35 : ((Jvm.Cond.methodLink "DataSetsLaw" (15 : Nat) ({ cls := "DataSets", name := "<init>", desc := "(I)V" } : Jvm.MethodName))) ∈ gTb := gTb_in 35 (by decide +kernel) rfl
theorem wd36 : ((Jvm.Cond.instanceMethod ({ cls := "DataSets", name := "<init>", desc := "(I)V" } : Jvm.MethodName))) ∈ gTb := gTb_in 36 (by decide +kernel) rfl
theorem wd37 : ((Jvm.Cond.code ({ cls := "DataSets", name := "<init>", desc := "(I)V" } : Jvm.MethodName) prog_1_method_1_code (2 : Nat) (Option.none : Option Jvm.ClassFile.FieldType))) ∈ gTb := gTb_in 37 (by decide +kernel) rfl
theorem wd38 : ((Jvm.Cond.methodLink "DataSets" (1 : Nat) ({ cls := "java/lang/Object", name := "<init>", desc := "()V" } : Jvm.MethodName))) ∈ gTb := gTb_in 38 (by decide +kernel) rfl
theorem wd39 : ((Jvm.Cond.instanceMethod ({ cls := "java/lang/Object", name := "<init>", desc := "()V" } : Jvm.MethodName))) ∈ gTb := gTb_in 39 (by decide +kernel) rfl
theorem wd40 : ((Jvm.Cond.code ({ cls := "java/lang/Object", name := "<init>", desc := "()V" } : Jvm.MethodName) object_method_1_code (1 : Nat) (Option.none : Option Jvm.ClassFile.FieldType))) ∈ gTb := gTb_in 40 (by decide +kernel) rfl
theorem wd41 : ((Jvm.Cond.classLink "DataSets" (7 : Nat) "DataSets$Volume")) ∈ gTb := gTb_in 41 (by decide +kernel) rfl
theorem wd42 : ((Jvm.Cond.instantiable "DataSets$Volume" (1 : Nat))) ∈ gTb := gTb_in 42 (by decide +kernel) rfl
theorem wd43 : ((Jvm.Cond.methodLink "DataSets" (9 : Nat) ({ cls := "DataSets$Volume", name := "<init>", desc := "(I)V" } : Jvm.MethodName))) ∈ gTb := gTb_in 43 (by decide +kernel) rfl
theorem wd44 : ((Jvm.Cond.instanceMethod ({ cls := "DataSets$Volume", name := "<init>", desc := "(I)V" } : Jvm.MethodName))) ∈ gTb := gTb_in 44 (by decide +kernel) rfl
theorem wd45 : ((Jvm.Cond.code ({ cls := "DataSets$Volume", name := "<init>", desc := "(I)V" } : Jvm.MethodName) prog_7_method_1_code (2 : Nat) (Option.none : Option Jvm.ClassFile.FieldType))) ∈ gTb := gTb_in 45 (by decide +kernel) rfl
theorem wd46 : ((Jvm.Cond.methodLink "DataSets$Volume" (3 : Nat) ({ cls := "java/lang/Object", name := "<init>", desc := "()V" } : Jvm.MethodName))) ∈ gTb := gTb_in 46 (by decide +kernel) rfl
theorem wd47 : ((Jvm.Cond.methodLink "DataSets$Volume" (9 : Nat) ({ cls := "java/lang/Math", name := "min", desc := "(II)I" } : Jvm.MethodName))) ∈ gTb := gTb_in 47 (by decide +kernel) rfl
theorem wd48 : ((Jvm.Cond.static ({ cls := "java/lang/Math", name := "min", desc := "(II)I" } : Jvm.MethodName))) ∈ gTb := gTb_in 48 (by decide +kernel) rfl
theorem wd49 : ((Jvm.Cond.code ({ cls := "java/lang/Math", name := "min", desc := "(II)I" } : Jvm.MethodName) prog_10_method_69_code (2 : Nat) (Option.some Jvm.ClassFile.FieldType.int))) ∈ gTb := gTb_in 49 (by decide +kernel) rfl
theorem wd50 : ((Jvm.Cond.methodLink "DataSets$Volume" (15 : Nat) ({ cls := "java/lang/Math", name := "max", desc := "(II)I" } : Jvm.MethodName))) ∈ gTb := gTb_in 50 (by decide +kernel) rfl
theorem wd51 : ((Jvm.Cond.static ({ cls := "java/lang/Math", name := "max", desc := "(II)I" } : Jvm.MethodName))) ∈ gTb := gTb_in 51 (by decide +kernel) rfl
theorem wd52 : ((Jvm.Cond.code ({ cls := "java/lang/Math", name := "max", desc := "(II)I" } : Jvm.MethodName) prog_10_method_65_code (2 : Nat) (Option.some Jvm.ClassFile.FieldType.int))) ∈ gTb := gTb_in 52 (by decide +kernel) rfl
theorem wd53 : ((Jvm.Cond.fieldLink "DataSets$Volume" (18 : Nat) "DataSets$Volume" "taken" "[Z")) ∈ gTb := gTb_in 53 (by decide +kernel) rfl
theorem wd58 : ((Jvm.Cond.classLink "DataSets" (18 : Nat) "DataSets$DataSet")) ∈ gTb := gTb_in 58 (by decide +kernel) rfl
theorem wd60 : ((Jvm.Cond.classLink "DataSets" (24 : Nat) "DataSets$Line")) ∈ gTb := gTb_in 60 (by decide +kernel) rfl
theorem wd62 : ((Jvm.Cond.fieldLink "DataSets" (12 : Nat) "DataSets" "volume" "LDataSets$Volume;")) ∈ gTb := gTb_in 62 (by decide +kernel) rfl
theorem wd63 : ((Jvm.Cond.fieldLink "DataSets" (20 : Nat) "DataSets" "sets" "[LDataSets$DataSet;")) ∈ gTb := gTb_in 63 (by decide +kernel) rfl
theorem wd64 : ((Jvm.Cond.fieldLink "DataSets" (26 : Nat) "DataSets" "lines" "[LDataSets$Line;")) ∈ gTb := gTb_in 64 (by decide +kernel) rfl
theorem wd65 : ((Jvm.Cond.fieldLink "DataSets" (30 : Nat) "DataSets" "made" "I")) ∈ gTb := gTb_in 65 (by decide +kernel) rfl
theorem wd75 : ((Jvm.Cond.methodLink "DataSetsLaw" (21 : Nat) ({ cls := "DataSets", name := "make", desc := "(III)I" } : Jvm.MethodName))) ∈ gTb := gTb_in 75 (by decide +kernel) rfl
theorem wd76 : ((Jvm.Cond.instanceMethod ({ cls := "DataSets", name := "make", desc := "(III)I" } : Jvm.MethodName))) ∈ gTb := gTb_in 76 (by decide +kernel) rfl
theorem wd77 : ((Jvm.Cond.selects "DataSets" ({ cls := "DataSets", name := "make", desc := "(III)I" } : Jvm.MethodName) ({ cls := "DataSets", name := "make", desc := "(III)I" } : Jvm.MethodName))) ∈ gTb := gTb_in 77 (by decide +kernel) rfl
theorem wd78 : ((Jvm.Cond.code ({ cls := "DataSets", name := "make", desc := "(III)I" } : Jvm.MethodName) prog_1_method_2_code (6 : Nat) (Option.some Jvm.ClassFile.FieldType.int))) ∈ gTb := gTb_in 78 (by decide +kernel) rfl
theorem wd79 : ((Jvm.Cond.methodLink "DataSets" (34 : Nat) ({ cls := "DataSets", name := "isName", desc := "(I)Z" } : Jvm.MethodName))) ∈ gTb := gTb_in 79 (by decide +kernel) rfl
theorem wd80 : ((Jvm.Cond.static ({ cls := "DataSets", name := "isName", desc := "(I)Z" } : Jvm.MethodName))) ∈ gTb := gTb_in 80 (by decide +kernel) rfl
theorem wd81 : ((Jvm.Cond.code ({ cls := "DataSets", name := "isName", desc := "(I)Z" } : Jvm.MethodName) prog_1_method_18_code (1 : Nat) (Option.some Jvm.ClassFile.FieldType.boolean))) ∈ gTb := gTb_in 81 (by decide +kernel) rfl
theorem wd82 : ((Jvm.Cond.methodLink "DataSets" (38 : Nat) ({ cls := "DataSets", name := "numberOf", desc := "(I)I" } : Jvm.MethodName))) ∈ gTb := gTb_in 82 (by decide +kernel) rfl
theorem wd84 : ((Jvm.Cond.instanceMethod ({ cls := "DataSets", name := "numberOf", desc := "(I)I" } : Jvm.MethodName))) ∈ gTb := gTb_in 84 (by decide +kernel) rfl
theorem wd85 : ((Jvm.Cond.code ({ cls := "DataSets", name := "numberOf", desc := "(I)I" } : Jvm.MethodName) prog_1_method_22_code (3 : Nat) (Option.some Jvm.ClassFile.FieldType.int))) ∈ gTb := gTb_in 85 (by decide +kernel) rfl
theorem wd86 : ((Jvm.Cond.methodLink "DataSets" (42 : Nat) ({ cls := "DataSets$Volume", name := "firstRun", desc := "(I)I" } : Jvm.MethodName))) ∈ gTb := gTb_in 86 (by decide +kernel) rfl
theorem wd87 : ((Jvm.Cond.instanceMethod ({ cls := "DataSets$Volume", name := "firstRun", desc := "(I)I" } : Jvm.MethodName))) ∈ gTb := gTb_in 87 (by decide +kernel) rfl
theorem wd88 : ((Jvm.Cond.selects "DataSets$Volume" ({ cls := "DataSets$Volume", name := "firstRun", desc := "(I)I" } : Jvm.MethodName) ({ cls := "DataSets$Volume", name := "firstRun", desc := "(I)I" } : Jvm.MethodName))) ∈ gTb := gTb_in 88 (by decide +kernel) rfl
theorem wd89 : ((Jvm.Cond.code ({ cls := "DataSets$Volume", name := "firstRun", desc := "(I)I" } : Jvm.MethodName) prog_7_method_2_code (4 : Nat) (Option.some Jvm.ClassFile.FieldType.int))) ∈ gTb := gTb_in 89 (by decide +kernel) rfl
theorem wd90 : ((Jvm.Cond.instantiable "DataSets$DataSet" (6 : Nat))) ∈ gTb := gTb_in 90 (by decide +kernel) rfl
theorem wd91 : ((Jvm.Cond.methodLink "DataSets" (45 : Nat) ({ cls := "DataSets$DataSet", name := "<init>", desc := "(II)V" } : Jvm.MethodName))) ∈ gTb := gTb_in 91 (by decide +kernel) rfl
theorem wd92 : ((Jvm.Cond.instanceMethod ({ cls := "DataSets$DataSet", name := "<init>", desc := "(II)V" } : Jvm.MethodName))) ∈ gTb := gTb_in 92 (by decide +kernel) rfl
theorem wd93 : ((Jvm.Cond.code ({ cls := "DataSets$DataSet", name := "<init>", desc := "(II)V" } : Jvm.MethodName) prog_3_method_1_code (3 : Nat) (Option.none : Option Jvm.ClassFile.FieldType))) ∈ gTb := gTb_in 93 (by decide +kernel) rfl
theorem wd94 : ((Jvm.Cond.methodLink "DataSets$DataSet" (1 : Nat) ({ cls := "java/lang/Object", name := "<init>", desc := "()V" } : Jvm.MethodName))) ∈ gTb := gTb_in 94 (by decide +kernel) rfl
theorem wd95 : ((Jvm.Cond.constantLong "DataSets$DataSet" (18 : Nat) (-9223372036854775808 : Int64))) ∈ gTb := gTb_in 95 (by decide +kernel) rfl
theorem wd96 : ((Jvm.Cond.classLink "DataSets$DataSet" (24 : Nat) "DataSets$Extents")) ∈ gTb := gTb_in 96 (by decide +kernel) rfl
theorem wd97 : ((Jvm.Cond.instantiable "DataSets$Extents" (3 : Nat))) ∈ gTb := gTb_in 97 (by decide +kernel) rfl
theorem wd98 : ((Jvm.Cond.methodLink "DataSets$DataSet" (26 : Nat) ({ cls := "DataSets$Extents", name := "<init>", desc := "()V" } : Jvm.MethodName))) ∈ gTb := gTb_in 98 (by decide +kernel) rfl
theorem wd99 : ((Jvm.Cond.instanceMethod ({ cls := "DataSets$Extents", name := "<init>", desc := "()V" } : Jvm.MethodName))) ∈ gTb := gTb_in 99 (by decide +kernel) rfl
theorem wd100 : ((Jvm.Cond.code ({ cls := "DataSets$Extents", name := "<init>", desc := "()V" } : Jvm.MethodName) prog_5_method_1_code (1 : Nat) (Option.none : Option Jvm.ClassFile.FieldType))) ∈ gTb := gTb_in 100 (by decide +kernel) rfl
theorem wd101 : ((Jvm.Cond.methodLink "DataSets$Extents" (3 : Nat) ({ cls := "java/lang/Object", name := "<init>", desc := "()V" } : Jvm.MethodName))) ∈ gTb := gTb_in 101 (by decide +kernel) rfl
theorem wd102 : ((Jvm.Cond.fieldLink "DataSets$Extents" (9 : Nat) "DataSets$Extents" "firsts" "[I")) ∈ gTb := gTb_in 102 (by decide +kernel) rfl
theorem wd104 : ((Jvm.Cond.fieldLink "DataSets$Extents" (15 : Nat) "DataSets$Extents" "lengths" "[I")) ∈ gTb := gTb_in 104 (by decide +kernel) rfl
theorem wd106 : ((Jvm.Cond.fieldLink "DataSets$Extents" (18 : Nat) "DataSets$Extents" "count" "I")) ∈ gTb := gTb_in 106 (by decide +kernel) rfl
theorem wd116 : ((Jvm.Cond.classLink "DataSets$DataSet" (31 : Nat) "DataSets$Directory")) ∈ gTb := gTb_in 116 (by decide +kernel) rfl
theorem wd117 : ((Jvm.Cond.instantiable "DataSets$Directory" (5 : Nat))) ∈ gTb := gTb_in 117 (by decide +kernel) rfl
theorem wd118 : ((Jvm.Cond.methodLink "DataSets$DataSet" (33 : Nat) ({ cls := "DataSets$Directory", name := "<init>", desc := "()V" } : Jvm.MethodName))) ∈ gTb := gTb_in 118 (by decide +kernel) rfl
theorem wd119 : ((Jvm.Cond.instanceMethod ({ cls := "DataSets$Directory", name := "<init>", desc := "()V" } : Jvm.MethodName))) ∈ gTb := gTb_in 119 (by decide +kernel) rfl
theorem wd120 : ((Jvm.Cond.code ({ cls := "DataSets$Directory", name := "<init>", desc := "()V" } : Jvm.MethodName) prog_4_method_1_code (1 : Nat) (Option.none : Option Jvm.ClassFile.FieldType))) ∈ gTb := gTb_in 120 (by decide +kernel) rfl
theorem wd121 : ((Jvm.Cond.methodLink "DataSets$Directory" (3 : Nat) ({ cls := "java/lang/Object", name := "<init>", desc := "()V" } : Jvm.MethodName))) ∈ gTb := gTb_in 121 (by decide +kernel) rfl
theorem wd122 : ((Jvm.Cond.fieldLink "DataSets$Directory" (9 : Nat) "DataSets$Directory" "names" "[I")) ∈ gTb := gTb_in 122 (by decide +kernel) rfl
theorem wd123 : ((Jvm.Cond.fieldLink "DataSets$Directory" (15 : Nat) "DataSets$Directory" "starts" "[I")) ∈ gTb := gTb_in 123 (by decide +kernel) rfl
theorem wd124 : ((Jvm.Cond.fieldLink "DataSets$Directory" (18 : Nat) "DataSets$Directory" "lengths" "[I")) ∈ gTb := gTb_in 124 (by decide +kernel) rfl
theorem wd125 : ((Jvm.Cond.fieldLink "DataSets$Directory" (21 : Nat) "DataSets$Directory" "count" "I")) ∈ gTb := gTb_in 125 (by decide +kernel) rfl
theorem wd126 : ((Jvm.Cond.fieldLink "DataSets$Directory" (25 : Nat) "DataSets$Directory" "given" "I")) ∈ gTb := gTb_in 126 (by decide +kernel) rfl
theorem wd139 : ((Jvm.Cond.classLink "DataSets$DataSet" (38 : Nat) "DataSets$Attributes")) ∈ gTb := gTb_in 139 (by decide +kernel) rfl
theorem wd140 : ((Jvm.Cond.instantiable "DataSets$Attributes" (2 : Nat))) ∈ gTb := gTb_in 140 (by decide +kernel) rfl
theorem wd141 : ((Jvm.Cond.methodLink "DataSets$DataSet" (40 : Nat) ({ cls := "DataSets$Attributes", name := "<init>", desc := "()V" } : Jvm.MethodName))) ∈ gTb := gTb_in 141 (by decide +kernel) rfl
theorem wd142 : ((Jvm.Cond.instanceMethod ({ cls := "DataSets$Attributes", name := "<init>", desc := "()V" } : Jvm.MethodName))) ∈ gTb := gTb_in 142 (by decide +kernel) rfl
theorem wd143 : ((Jvm.Cond.code ({ cls := "DataSets$Attributes", name := "<init>", desc := "()V" } : Jvm.MethodName) prog_2_method_1_code (1 : Nat) (Option.none : Option Jvm.ClassFile.FieldType))) ∈ gTb := gTb_in 143 (by decide +kernel) rfl
theorem wd144 : ((Jvm.Cond.methodLink "DataSets$Attributes" (3 : Nat) ({ cls := "java/lang/Object", name := "<init>", desc := "()V" } : Jvm.MethodName))) ∈ gTb := gTb_in 144 (by decide +kernel) rfl
theorem wd145 : ((Jvm.Cond.fieldLink "DataSets$Attributes" (9 : Nat) "DataSets$Attributes" "told" "[Z")) ∈ gTb := gTb_in 145 (by decide +kernel) rfl
theorem wd146 : ((Jvm.Cond.fieldLink "DataSets$Attributes" (15 : Nat) "DataSets$Attributes" "values" "[I")) ∈ gTb := gTb_in 146 (by decide +kernel) rfl
theorem wd152 : ((Jvm.Cond.fieldLink "DataSets$DataSet" (7 : Nat) "DataSets$DataSet" "name" "I")) ∈ gTb := gTb_in 152 (by decide +kernel) rfl
theorem wd154 : ((Jvm.Cond.fieldLink "DataSets$DataSet" (13 : Nat) "DataSets$DataSet" "further" "I")) ∈ gTb := gTb_in 154 (by decide +kernel) rfl
theorem wd156 : ((Jvm.Cond.fieldLink "DataSets$DataSet" (20 : Nat) "DataSets$DataSet" "guardDay" "J")) ∈ gTb := gTb_in 156 (by decide +kernel) rfl
theorem wd158 : ((Jvm.Cond.fieldLink "DataSets$DataSet" (27 : Nat) "DataSets$DataSet" "extents" "LDataSets$Extents;")) ∈ gTb := gTb_in 158 (by decide +kernel) rfl
theorem wd160 : ((Jvm.Cond.fieldLink "DataSets$DataSet" (34 : Nat) "DataSets$DataSet" "directory" "LDataSets$Directory;")) ∈ gTb := gTb_in 160 (by decide +kernel) rfl
theorem wd162 : ((Jvm.Cond.fieldLink "DataSets$DataSet" (41 : Nat) "DataSets$DataSet" "attributes" "LDataSets$Attributes;")) ∈ gTb := gTb_in 162 (by decide +kernel) rfl
theorem wd177 : ((Jvm.Cond.methodLink "DataSets" (48 : Nat) ({ cls := "DataSets$Volume", name := "take", desc := "(II)V" } : Jvm.MethodName))) ∈ gTb := gTb_in 177 (by decide +kernel) rfl
theorem wd178 : ((Jvm.Cond.instanceMethod ({ cls := "DataSets$Volume", name := "take", desc := "(II)V" } : Jvm.MethodName))) ∈ gTb := gTb_in 178 (by decide +kernel) rfl
theorem wd179 : ((Jvm.Cond.selects "DataSets$Volume" ({ cls := "DataSets$Volume", name := "take", desc := "(II)V" } : Jvm.MethodName) ({ cls := "DataSets$Volume", name := "take", desc := "(II)V" } : Jvm.MethodName))) ∈ gTb := gTb_in 179 (by decide +kernel) rfl
theorem wd180 : ((Jvm.Cond.code ({ cls := "DataSets$Volume", name := "take", desc := "(II)V" } : Jvm.MethodName) prog_7_method_5_code (3 : Nat) (Option.none : Option Jvm.ClassFile.FieldType))) ∈ gTb := gTb_in 180 (by decide +kernel) rfl
theorem wd181 : ((Jvm.Cond.methodLink "DataSets$Volume" (24 : Nat) ({ cls := "DataSets$Volume", name := "mark", desc := "(IIZ)V" } : Jvm.MethodName))) ∈ gTb := gTb_in 181 (by decide +kernel) rfl
theorem wd183 : ((Jvm.Cond.instanceMethod ({ cls := "DataSets$Volume", name := "mark", desc := "(IIZ)V" } : Jvm.MethodName))) ∈ gTb := gTb_in 183 (by decide +kernel) rfl
theorem wd184 : ((Jvm.Cond.code ({ cls := "DataSets$Volume", name := "mark", desc := "(IIZ)V" } : Jvm.MethodName) prog_7_method_7_code (6 : Nat) (Option.none : Option Jvm.ClassFile.FieldType))) ∈ gTb := gTb_in 184 (by decide +kernel) rfl
theorem wd185 : ((Jvm.Cond.methodLink "DataSets" (55 : Nat) ({ cls := "DataSets$Extents", name := "add", desc := "(II)V" } : Jvm.MethodName))) ∈ gTb := gTb_in 185 (by decide +kernel) rfl
theorem wd186 : ((Jvm.Cond.instanceMethod ({ cls := "DataSets$Extents", name := "add", desc := "(II)V" } : Jvm.MethodName))) ∈ gTb := gTb_in 186 (by decide +kernel) rfl
theorem wd187 : ((Jvm.Cond.selects "DataSets$Extents" ({ cls := "DataSets$Extents", name := "add", desc := "(II)V" } : Jvm.MethodName) ({ cls := "DataSets$Extents", name := "add", desc := "(II)V" } : Jvm.MethodName))) ∈ gTb := gTb_in 187 (by decide +kernel) rfl
theorem wd188 : ((Jvm.Cond.code ({ cls := "DataSets$Extents", name := "add", desc := "(II)V" } : Jvm.MethodName) prog_5_method_3_code (3 : Nat) (Option.none : Option Jvm.ClassFile.FieldType))) ∈ gTb := gTb_in 188 (by decide +kernel) rfl
theorem wd189 : ((Jvm.Cond.methodLink "DataSets$Extents" (22 : Nat) ({ cls := "DataSets$Extents", name := "isFull", desc := "()Z" } : Jvm.MethodName))) ∈ gTb := gTb_in 189 (by decide +kernel) rfl
theorem wd190 : ((Jvm.Cond.instanceMethod ({ cls := "DataSets$Extents", name := "isFull", desc := "()Z" } : Jvm.MethodName))) ∈ gTb := gTb_in 190 (by decide +kernel) rfl
theorem wd191 : ((Jvm.Cond.selects "DataSets$Extents" ({ cls := "DataSets$Extents", name := "isFull", desc := "()Z" } : Jvm.MethodName) ({ cls := "DataSets$Extents", name := "isFull", desc := "()Z" } : Jvm.MethodName))) ∈ gTb := gTb_in 191 (by decide +kernel) rfl
theorem wd192 : ((Jvm.Cond.code ({ cls := "DataSets$Extents", name := "isFull", desc := "()Z" } : Jvm.MethodName) prog_5_method_2_code (1 : Nat) (Option.some Jvm.ClassFile.FieldType.boolean))) ∈ gTb := gTb_in 192 (by decide +kernel) rfl
theorem wd193 : ((Jvm.Cond.methodLink "DataSetsLaw" (26 : Nat) ({ cls := "DataSets", name := "extend", desc := "(I)I" } : Jvm.MethodName))) ∈ gTb := gTb_in 193 (by decide +kernel) rfl
theorem wd194 : ((Jvm.Cond.instanceMethod ({ cls := "DataSets", name := "extend", desc := "(I)I" } : Jvm.MethodName))) ∈ gTb := gTb_in 194 (by decide +kernel) rfl
theorem wd195 : ((Jvm.Cond.selects "DataSets" ({ cls := "DataSets", name := "extend", desc := "(I)I" } : Jvm.MethodName) ({ cls := "DataSets", name := "extend", desc := "(I)I" } : Jvm.MethodName))) ∈ gTb := gTb_in 195 (by decide +kernel) rfl
theorem wd196 : ((Jvm.Cond.code ({ cls := "DataSets", name := "extend", desc := "(I)I" } : Jvm.MethodName) prog_1_method_3_code (4 : Nat) (Option.some Jvm.ClassFile.FieldType.int))) ∈ gTb := gTb_in 196 (by decide +kernel) rfl
theorem wd197 : ((Jvm.Cond.methodLink "DataSets" (60 : Nat) ({ cls := "DataSets", name := "setOf", desc := "(I)LDataSets$DataSet;" } : Jvm.MethodName))) ∈ gTb := gTb_in 197 (by decide +kernel) rfl
theorem wd199 : ((Jvm.Cond.instanceMethod ({ cls := "DataSets", name := "setOf", desc := "(I)LDataSets$DataSet;" } : Jvm.MethodName))) ∈ gTb := gTb_in 199 (by decide +kernel) rfl
theorem wd200 : ((Jvm.Cond.code ({ cls := "DataSets", name := "setOf", desc := "(I)LDataSets$DataSet;" } : Jvm.MethodName) prog_1_method_21_code (2 : Nat) (Option.some (Jvm.ClassFile.FieldType.object "DataSets$DataSet")))) ∈ gTb := gTb_in 200 (by decide +kernel) rfl
theorem wd201 : ((Jvm.Cond.methodLink "DataSets" (64 : Nat) ({ cls := "DataSets$Extents", name := "isFull", desc := "()Z" } : Jvm.MethodName))) ∈ gTb := gTb_in 201 (by decide +kernel) rfl
theorem wd202 : ((Jvm.Cond.methodLink "DataSetsLaw" (31 : Nat) ({ cls := "DataSets", name := "find", desc := "(I)I" } : Jvm.MethodName))) ∈ gTb := gTb_in 202 (by decide +kernel) rfl
theorem wd203 : ((Jvm.Cond.instanceMethod ({ cls := "DataSets", name := "find", desc := "(I)I" } : Jvm.MethodName))) ∈ gTb := gTb_in 203 (by decide +kernel) rfl
theorem wd204 : ((Jvm.Cond.selects "DataSets" ({ cls := "DataSets", name := "find", desc := "(I)I" } : Jvm.MethodName) ({ cls := "DataSets", name := "find", desc := "(I)I" } : Jvm.MethodName))) ∈ gTb := gTb_in 204 (by decide +kernel) rfl
theorem wd205 : ((Jvm.Cond.code ({ cls := "DataSets", name := "find", desc := "(I)I" } : Jvm.MethodName) prog_1_method_4_code (2 : Nat) (Option.some Jvm.ClassFile.FieldType.int))) ∈ gTb := gTb_in 205 (by decide +kernel) rfl
theorem wd206 : ((Jvm.Cond.methodLink "DataSetsLaw" (35 : Nat) ({ cls := "DataSets", name := "member", desc := "(III)I" } : Jvm.MethodName))) ∈ gTb := gTb_in 206 (by decide +kernel) rfl
theorem wd207 : ((Jvm.Cond.instanceMethod ({ cls := "DataSets", name := "member", desc := "(III)I" } : Jvm.MethodName))) ∈ gTb := gTb_in 207 (by decide +kernel) rfl
theorem wd208 : ((Jvm.Cond.selects "DataSets" ({ cls := "DataSets", name := "member", desc := "(III)I" } : Jvm.MethodName) ({ cls := "DataSets", name := "member", desc := "(III)I" } : Jvm.MethodName))) ∈ gTb := gTb_in 208 (by decide +kernel) rfl
theorem wd209 : ((Jvm.Cond.code ({ cls := "DataSets", name := "member", desc := "(III)I" } : Jvm.MethodName) prog_1_method_5_code (5 : Nat) (Option.some Jvm.ClassFile.FieldType.int))) ∈ gTb := gTb_in 209 (by decide +kernel) rfl
theorem wd210 : ((Jvm.Cond.methodLink "DataSets" (78 : Nat) ({ cls := "DataSets$Directory", name := "hasRoomFor", desc := "(I)Z" } : Jvm.MethodName))) ∈ gTb := gTb_in 210 (by decide +kernel) rfl
theorem wd211 : ((Jvm.Cond.instanceMethod ({ cls := "DataSets$Directory", name := "hasRoomFor", desc := "(I)Z" } : Jvm.MethodName))) ∈ gTb := gTb_in 211 (by decide +kernel) rfl
theorem wd212 : ((Jvm.Cond.selects "DataSets$Directory" ({ cls := "DataSets$Directory", name := "hasRoomFor", desc := "(I)Z" } : Jvm.MethodName) ({ cls := "DataSets$Directory", name := "hasRoomFor", desc := "(I)Z" } : Jvm.MethodName))) ∈ gTb := gTb_in 212 (by decide +kernel) rfl
theorem wd213 : ((Jvm.Cond.code ({ cls := "DataSets$Directory", name := "hasRoomFor", desc := "(I)Z" } : Jvm.MethodName) prog_4_method_2_code (2 : Nat) (Option.some Jvm.ClassFile.FieldType.boolean))) ∈ gTb := gTb_in 213 (by decide +kernel) rfl
theorem wd214 : ((Jvm.Cond.methodLink "DataSets$Directory" (28 : Nat) ({ cls := "DataSets$Directory", name := "indexOf", desc := "(I)I" } : Jvm.MethodName))) ∈ gTb := gTb_in 214 (by decide +kernel) rfl
theorem wd216 : ((Jvm.Cond.instanceMethod ({ cls := "DataSets$Directory", name := "indexOf", desc := "(I)I" } : Jvm.MethodName))) ∈ gTb := gTb_in 216 (by decide +kernel) rfl
theorem wd217 : ((Jvm.Cond.code ({ cls := "DataSets$Directory", name := "indexOf", desc := "(I)I" } : Jvm.MethodName) prog_4_method_6_code (3 : Nat) (Option.some Jvm.ClassFile.FieldType.int))) ∈ gTb := gTb_in 217 (by decide +kernel) rfl
theorem wd218 : ((Jvm.Cond.methodLink "DataSets" (86 : Nat) ({ cls := "DataSets$Extents", name := "tracks", desc := "()I" } : Jvm.MethodName))) ∈ gTb := gTb_in 218 (by decide +kernel) rfl
theorem wd219 : ((Jvm.Cond.instanceMethod ({ cls := "DataSets$Extents", name := "tracks", desc := "()I" } : Jvm.MethodName))) ∈ gTb := gTb_in 219 (by decide +kernel) rfl
theorem wd220 : ((Jvm.Cond.selects "DataSets$Extents" ({ cls := "DataSets$Extents", name := "tracks", desc := "()I" } : Jvm.MethodName) ({ cls := "DataSets$Extents", name := "tracks", desc := "()I" } : Jvm.MethodName))) ∈ gTb := gTb_in 220 (by decide +kernel) rfl
theorem wd221 : ((Jvm.Cond.code ({ cls := "DataSets$Extents", name := "tracks", desc := "()I" } : Jvm.MethodName) prog_5_method_4_code (3 : Nat) (Option.some Jvm.ClassFile.FieldType.int))) ∈ gTb := gTb_in 221 (by decide +kernel) rfl
theorem wd222 : ((Jvm.Cond.methodLink "DataSets" (90 : Nat) ({ cls := "DataSets$Directory", name := "put", desc := "(II)V" } : Jvm.MethodName))) ∈ gTb := gTb_in 222 (by decide +kernel) rfl
theorem wd223 : ((Jvm.Cond.instanceMethod ({ cls := "DataSets$Directory", name := "put", desc := "(II)V" } : Jvm.MethodName))) ∈ gTb := gTb_in 223 (by decide +kernel) rfl
theorem wd224 : ((Jvm.Cond.selects "DataSets$Directory" ({ cls := "DataSets$Directory", name := "put", desc := "(II)V" } : Jvm.MethodName) ({ cls := "DataSets$Directory", name := "put", desc := "(II)V" } : Jvm.MethodName))) ∈ gTb := gTb_in 224 (by decide +kernel) rfl
theorem wd225 : ((Jvm.Cond.code ({ cls := "DataSets$Directory", name := "put", desc := "(II)V" } : Jvm.MethodName) prog_4_method_3_code (3 : Nat) (Option.none : Option Jvm.ClassFile.FieldType))) ∈ gTb := gTb_in 225 (by decide +kernel) rfl
theorem wd226 : ((Jvm.Cond.methodLink "DataSets$Directory" (32 : Nat) ({ cls := "DataSets$Directory", name := "drop", desc := "(I)V" } : Jvm.MethodName))) ∈ gTb := gTb_in 226 (by decide +kernel) rfl
theorem wd228 : ((Jvm.Cond.instanceMethod ({ cls := "DataSets$Directory", name := "drop", desc := "(I)V" } : Jvm.MethodName))) ∈ gTb := gTb_in 228 (by decide +kernel) rfl
theorem wd229 : ((Jvm.Cond.code ({ cls := "DataSets$Directory", name := "drop", desc := "(I)V" } : Jvm.MethodName) prog_4_method_7_code (4 : Nat) (Option.none : Option Jvm.ClassFile.FieldType))) ∈ gTb := gTb_in 229 (by decide +kernel) rfl
theorem wd230 : ((Jvm.Cond.methodLink "DataSetsLaw" (39 : Nat) ({ cls := "DataSets", name := "track", desc := "(II)I" } : Jvm.MethodName))) ∈ gTb := gTb_in 230 (by decide +kernel) rfl
theorem wd231 : ((Jvm.Cond.instanceMethod ({ cls := "DataSets", name := "track", desc := "(II)I" } : Jvm.MethodName))) ∈ gTb := gTb_in 231 (by decide +kernel) rfl
theorem wd232 : ((Jvm.Cond.selects "DataSets" ({ cls := "DataSets", name := "track", desc := "(II)I" } : Jvm.MethodName) ({ cls := "DataSets", name := "track", desc := "(II)I" } : Jvm.MethodName))) ∈ gTb := gTb_in 232 (by decide +kernel) rfl
theorem wd233 : ((Jvm.Cond.code ({ cls := "DataSets", name := "track", desc := "(II)I" } : Jvm.MethodName) prog_1_method_6_code (5 : Nat) (Option.some Jvm.ClassFile.FieldType.int))) ∈ gTb := gTb_in 233 (by decide +kernel) rfl
theorem wd234 : ((Jvm.Cond.methodLink "DataSets" (93 : Nat) ({ cls := "DataSets$Directory", name := "startOf", desc := "(I)I" } : Jvm.MethodName))) ∈ gTb := gTb_in 234 (by decide +kernel) rfl
theorem wd235 : ((Jvm.Cond.instanceMethod ({ cls := "DataSets$Directory", name := "startOf", desc := "(I)I" } : Jvm.MethodName))) ∈ gTb := gTb_in 235 (by decide +kernel) rfl
theorem wd236 : ((Jvm.Cond.selects "DataSets$Directory" ({ cls := "DataSets$Directory", name := "startOf", desc := "(I)I" } : Jvm.MethodName) ({ cls := "DataSets$Directory", name := "startOf", desc := "(I)I" } : Jvm.MethodName))) ∈ gTb := gTb_in 236 (by decide +kernel) rfl
theorem wd237 : ((Jvm.Cond.code ({ cls := "DataSets$Directory", name := "startOf", desc := "(I)I" } : Jvm.MethodName) prog_4_method_4_code (3 : Nat) (Option.some Jvm.ClassFile.FieldType.int))) ∈ gTb := gTb_in 237 (by decide +kernel) rfl
theorem wd238 : ((Jvm.Cond.methodLink "DataSets" (96 : Nat) ({ cls := "DataSets$Extents", name := "onVolume", desc := "(I)I" } : Jvm.MethodName))) ∈ gTb := gTb_in 238 (by decide +kernel) rfl
theorem wd239 : ((Jvm.Cond.instanceMethod ({ cls := "DataSets$Extents", name := "onVolume", desc := "(I)I" } : Jvm.MethodName))) ∈ gTb := gTb_in 239 (by decide +kernel) rfl
theorem wd240 : ((Jvm.Cond.selects "DataSets$Extents" ({ cls := "DataSets$Extents", name := "onVolume", desc := "(I)I" } : Jvm.MethodName) ({ cls := "DataSets$Extents", name := "onVolume", desc := "(I)I" } : Jvm.MethodName))) ∈ gTb := gTb_in 240 (by decide +kernel) rfl
theorem wd241 : ((Jvm.Cond.code ({ cls := "DataSets$Extents", name := "onVolume", desc := "(I)I" } : Jvm.MethodName) prog_5_method_5_code (4 : Nat) (Option.some Jvm.ClassFile.FieldType.int))) ∈ gTb := gTb_in 241 (by decide +kernel) rfl
theorem wd242 : ((Jvm.Cond.methodLink "DataSetsLaw" (46 : Nat) ({ cls := "DataSets", name := "remove", desc := "(IJ)I" } : Jvm.MethodName))) ∈ gTb := gTb_in 242 (by decide +kernel) rfl
theorem wd243 : ((Jvm.Cond.instanceMethod ({ cls := "DataSets", name := "remove", desc := "(IJ)I" } : Jvm.MethodName))) ∈ gTb := gTb_in 243 (by decide +kernel) rfl
theorem wd244 : ((Jvm.Cond.selects "DataSets" ({ cls := "DataSets", name := "remove", desc := "(IJ)I" } : Jvm.MethodName) ({ cls := "DataSets", name := "remove", desc := "(IJ)I" } : Jvm.MethodName))) ∈ gTb := gTb_in 244 (by decide +kernel) rfl
theorem wd245 : ((Jvm.Cond.code ({ cls := "DataSets", name := "remove", desc := "(IJ)I" } : Jvm.MethodName) prog_1_method_7_code (6 : Nat) (Option.some Jvm.ClassFile.FieldType.int))) ∈ gTb := gTb_in 245 (by decide +kernel) rfl
theorem wd246 : ((Jvm.Cond.methodLink "DataSets" (99 : Nat) ({ cls := "DataSets", name := "isInUse", desc := "(I)Z" } : Jvm.MethodName))) ∈ gTb := gTb_in 246 (by decide +kernel) rfl
theorem wd248 : ((Jvm.Cond.instanceMethod ({ cls := "DataSets", name := "isInUse", desc := "(I)Z" } : Jvm.MethodName))) ∈ gTb := gTb_in 248 (by decide +kernel) rfl
theorem wd249 : ((Jvm.Cond.code ({ cls := "DataSets", name := "isInUse", desc := "(I)Z" } : Jvm.MethodName) prog_1_method_23_code (2 : Nat) (Option.some Jvm.ClassFile.FieldType.boolean))) ∈ gTb := gTb_in 249 (by decide +kernel) rfl
theorem wd250 : ((Jvm.Cond.methodLink "DataSets" (106 : Nat) ({ cls := "DataSets$Extents", name := "cutTo", desc := "(ILDataSets$Volume;)I" } : Jvm.MethodName))) ∈ gTb := gTb_in 250 (by decide +kernel) rfl
theorem wd251 : ((Jvm.Cond.instanceMethod ({ cls := "DataSets$Extents", name := "cutTo", desc := "(ILDataSets$Volume;)I" } : Jvm.MethodName))) ∈ gTb := gTb_in 251 (by decide +kernel) rfl
theorem wd252 : ((Jvm.Cond.selects "DataSets$Extents" ({ cls := "DataSets$Extents", name := "cutTo", desc := "(ILDataSets$Volume;)I" } : Jvm.MethodName) ({ cls := "DataSets$Extents", name := "cutTo", desc := "(ILDataSets$Volume;)I" } : Jvm.MethodName))) ∈ gTb := gTb_in 252 (by decide +kernel) rfl
theorem wd253 : ((Jvm.Cond.code ({ cls := "DataSets$Extents", name := "cutTo", desc := "(ILDataSets$Volume;)I" } : Jvm.MethodName) prog_5_method_6_code (9 : Nat) (Option.some Jvm.ClassFile.FieldType.int))) ∈ gTb := gTb_in 253 (by decide +kernel) rfl
theorem wd254 : ((Jvm.Cond.methodLink "DataSets$Extents" (26 : Nat) ({ cls := "java/lang/Math", name := "min", desc := "(II)I" } : Jvm.MethodName))) ∈ gTb := gTb_in 254 (by decide +kernel) rfl
theorem wd255 : ((Jvm.Cond.methodLink "DataSets$Extents" (32 : Nat) ({ cls := "DataSets$Volume", name := "giveBack", desc := "(II)V" } : Jvm.MethodName))) ∈ gTb := gTb_in 255 (by decide +kernel) rfl
theorem wd256 : ((Jvm.Cond.instanceMethod ({ cls := "DataSets$Volume", name := "giveBack", desc := "(II)V" } : Jvm.MethodName))) ∈ gTb := gTb_in 256 (by decide +kernel) rfl
theorem wd257 : ((Jvm.Cond.selects "DataSets$Volume" ({ cls := "DataSets$Volume", name := "giveBack", desc := "(II)V" } : Jvm.MethodName) ({ cls := "DataSets$Volume", name := "giveBack", desc := "(II)V" } : Jvm.MethodName))) ∈ gTb := gTb_in 257 (by decide +kernel) rfl
theorem wd258 : ((Jvm.Cond.code ({ cls := "DataSets$Volume", name := "giveBack", desc := "(II)V" } : Jvm.MethodName) prog_7_method_6_code (3 : Nat) (Option.none : Option Jvm.ClassFile.FieldType))) ∈ gTb := gTb_in 258 (by decide +kernel) rfl
theorem wd259 : ((Jvm.Cond.methodLink "DataSetsLaw" (51 : Nat) ({ cls := "DataSets", name := "guard", desc := "(IJ)I" } : Jvm.MethodName))) ∈ gTb := gTb_in 259 (by decide +kernel) rfl
theorem wd260 : ((Jvm.Cond.instanceMethod ({ cls := "DataSets", name := "guard", desc := "(IJ)I" } : Jvm.MethodName))) ∈ gTb := gTb_in 260 (by decide +kernel) rfl
theorem wd261 : ((Jvm.Cond.selects "DataSets" ({ cls := "DataSets", name := "guard", desc := "(IJ)I" } : Jvm.MethodName) ({ cls := "DataSets", name := "guard", desc := "(IJ)I" } : Jvm.MethodName))) ∈ gTb := gTb_in 261 (by decide +kernel) rfl
theorem wd262 : ((Jvm.Cond.code ({ cls := "DataSets", name := "guard", desc := "(IJ)I" } : Jvm.MethodName) prog_1_method_8_code (5 : Nat) (Option.some Jvm.ClassFile.FieldType.int))) ∈ gTb := gTb_in 262 (by decide +kernel) rfl
theorem wd263 : ((Jvm.Cond.methodLink "DataSetsLaw" (55 : Nat) ({ cls := "DataSets", name := "rename", desc := "(II)I" } : Jvm.MethodName))) ∈ gTb := gTb_in 263 (by decide +kernel) rfl
theorem wd264 : ((Jvm.Cond.instanceMethod ({ cls := "DataSets", name := "rename", desc := "(II)I" } : Jvm.MethodName))) ∈ gTb := gTb_in 264 (by decide +kernel) rfl
theorem wd265 : ((Jvm.Cond.selects "DataSets" ({ cls := "DataSets", name := "rename", desc := "(II)I" } : Jvm.MethodName) ({ cls := "DataSets", name := "rename", desc := "(II)I" } : Jvm.MethodName))) ∈ gTb := gTb_in 265 (by decide +kernel) rfl
theorem wd266 : ((Jvm.Cond.code ({ cls := "DataSets", name := "rename", desc := "(II)I" } : Jvm.MethodName) prog_1_method_9_code (4 : Nat) (Option.some Jvm.ClassFile.FieldType.int))) ∈ gTb := gTb_in 266 (by decide +kernel) rfl
theorem wd267 : ((Jvm.Cond.methodLink "DataSetsLaw" (59 : Nat) ({ cls := "DataSets", name := "attribute", desc := "(IIII)I" } : Jvm.MethodName))) ∈ gTb := gTb_in 267 (by decide +kernel) rfl
theorem wd268 : ((Jvm.Cond.instanceMethod ({ cls := "DataSets", name := "attribute", desc := "(IIII)I" } : Jvm.MethodName))) ∈ gTb := gTb_in 268 (by decide +kernel) rfl
theorem wd269 : ((Jvm.Cond.selects "DataSets" ({ cls := "DataSets", name := "attribute", desc := "(IIII)I" } : Jvm.MethodName) ({ cls := "DataSets", name := "attribute", desc := "(IIII)I" } : Jvm.MethodName))) ∈ gTb := gTb_in 269 (by decide +kernel) rfl
theorem wd270 : ((Jvm.Cond.code ({ cls := "DataSets", name := "attribute", desc := "(IIII)I" } : Jvm.MethodName) prog_1_method_10_code (6 : Nat) (Option.some Jvm.ClassFile.FieldType.int))) ∈ gTb := gTb_in 270 (by decide +kernel) rfl
theorem wd271 : ((Jvm.Cond.methodLink "DataSets" (113 : Nat) ({ cls := "DataSets", name := "isAttribute", desc := "(I)Z" } : Jvm.MethodName))) ∈ gTb := gTb_in 271 (by decide +kernel) rfl
theorem wd272 : ((Jvm.Cond.static ({ cls := "DataSets", name := "isAttribute", desc := "(I)Z" } : Jvm.MethodName))) ∈ gTb := gTb_in 272 (by decide +kernel) rfl
theorem wd273 : ((Jvm.Cond.code ({ cls := "DataSets", name := "isAttribute", desc := "(I)Z" } : Jvm.MethodName) prog_1_method_20_code (1 : Nat) (Option.some Jvm.ClassFile.FieldType.boolean))) ∈ gTb := gTb_in 273 (by decide +kernel) rfl
theorem wd274 : ((Jvm.Cond.methodLink "DataSets" (120 : Nat) ({ cls := "DataSets$Attributes", name := "tell", desc := "(III)V" } : Jvm.MethodName))) ∈ gTb := gTb_in 274 (by decide +kernel) rfl
theorem wd275 : ((Jvm.Cond.instanceMethod ({ cls := "DataSets$Attributes", name := "tell", desc := "(III)V" } : Jvm.MethodName))) ∈ gTb := gTb_in 275 (by decide +kernel) rfl
theorem wd276 : ((Jvm.Cond.selects "DataSets$Attributes" ({ cls := "DataSets$Attributes", name := "tell", desc := "(III)V" } : Jvm.MethodName) ({ cls := "DataSets$Attributes", name := "tell", desc := "(III)V" } : Jvm.MethodName))) ∈ gTb := gTb_in 276 (by decide +kernel) rfl
theorem wd277 : ((Jvm.Cond.code ({ cls := "DataSets$Attributes", name := "tell", desc := "(III)V" } : Jvm.MethodName) prog_2_method_2_code (5 : Nat) (Option.none : Option Jvm.ClassFile.FieldType))) ∈ gTb := gTb_in 277 (by decide +kernel) rfl
theorem wd278 : ((Jvm.Cond.methodLink "DataSetsLaw" (64 : Nat) ({ cls := "DataSets", name := "merged", desc := "(II)I" } : Jvm.MethodName))) ∈ gTb := gTb_in 278 (by decide +kernel) rfl
theorem wd279 : ((Jvm.Cond.instanceMethod ({ cls := "DataSets", name := "merged", desc := "(II)I" } : Jvm.MethodName))) ∈ gTb := gTb_in 279 (by decide +kernel) rfl
theorem wd280 : ((Jvm.Cond.selects "DataSets" ({ cls := "DataSets", name := "merged", desc := "(II)I" } : Jvm.MethodName) ({ cls := "DataSets", name := "merged", desc := "(II)I" } : Jvm.MethodName))) ∈ gTb := gTb_in 280 (by decide +kernel) rfl
theorem wd281 : ((Jvm.Cond.code ({ cls := "DataSets", name := "merged", desc := "(II)I" } : Jvm.MethodName) prog_1_method_11_code (4 : Nat) (Option.some Jvm.ClassFile.FieldType.int))) ∈ gTb := gTb_in 281 (by decide +kernel) rfl
theorem wd282 : ((Jvm.Cond.methodLink "DataSets" (126 : Nat) ({ cls := "DataSets$Attributes", name := "firstTold", desc := "(I)I" } : Jvm.MethodName))) ∈ gTb := gTb_in 282 (by decide +kernel) rfl
theorem wd283 : ((Jvm.Cond.instanceMethod ({ cls := "DataSets$Attributes", name := "firstTold", desc := "(I)I" } : Jvm.MethodName))) ∈ gTb := gTb_in 283 (by decide +kernel) rfl
theorem wd284 : ((Jvm.Cond.selects "DataSets$Attributes" ({ cls := "DataSets$Attributes", name := "firstTold", desc := "(I)I" } : Jvm.MethodName) ({ cls := "DataSets$Attributes", name := "firstTold", desc := "(I)I" } : Jvm.MethodName))) ∈ gTb := gTb_in 284 (by decide +kernel) rfl
theorem wd285 : ((Jvm.Cond.code ({ cls := "DataSets$Attributes", name := "firstTold", desc := "(I)I" } : Jvm.MethodName) prog_2_method_3_code (4 : Nat) (Option.some Jvm.ClassFile.FieldType.int))) ∈ gTb := gTb_in 285 (by decide +kernel) rfl
theorem wd287 : ((Jvm.Cond.methodLink "DataSetsLaw" (68 : Nat) ({ cls := "DataSets", name := "enqueue", desc := "(IIZ)I" } : Jvm.MethodName))) ∈ gTb := gTb_in 287 (by decide +kernel) rfl
theorem wd288 : ((Jvm.Cond.instanceMethod ({ cls := "DataSets", name := "enqueue", desc := "(IIZ)I" } : Jvm.MethodName))) ∈ gTb := gTb_in 288 (by decide +kernel) rfl
theorem wd289 : ((Jvm.Cond.selects "DataSets" ({ cls := "DataSets", name := "enqueue", desc := "(IIZ)I" } : Jvm.MethodName) ({ cls := "DataSets", name := "enqueue", desc := "(IIZ)I" } : Jvm.MethodName))) ∈ gTb := gTb_in 289 (by decide +kernel) rfl
theorem wd290 : ((Jvm.Cond.code ({ cls := "DataSets", name := "enqueue", desc := "(IIZ)I" } : Jvm.MethodName) prog_1_method_12_code (4 : Nat) (Option.some Jvm.ClassFile.FieldType.int))) ∈ gTb := gTb_in 290 (by decide +kernel) rfl
theorem wd291 : ((Jvm.Cond.methodLink "DataSets" (129 : Nat) ({ cls := "DataSets", name := "isJob", desc := "(I)Z" } : Jvm.MethodName))) ∈ gTb := gTb_in 291 (by decide +kernel) rfl
theorem wd292 : ((Jvm.Cond.static ({ cls := "DataSets", name := "isJob", desc := "(I)Z" } : Jvm.MethodName))) ∈ gTb := gTb_in 292 (by decide +kernel) rfl
theorem wd293 : ((Jvm.Cond.code ({ cls := "DataSets", name := "isJob", desc := "(I)Z" } : Jvm.MethodName) prog_1_method_19_code (1 : Nat) (Option.some Jvm.ClassFile.FieldType.boolean))) ∈ gTb := gTb_in 293 (by decide +kernel) rfl
theorem wd294 : ((Jvm.Cond.instantiable "DataSets$Line" (4 : Nat))) ∈ gTb := gTb_in 294 (by decide +kernel) rfl
theorem wd295 : ((Jvm.Cond.methodLink "DataSets" (132 : Nat) ({ cls := "DataSets$Line", name := "<init>", desc := "()V" } : Jvm.MethodName))) ∈ gTb := gTb_in 295 (by decide +kernel) rfl
theorem wd296 : ((Jvm.Cond.instanceMethod ({ cls := "DataSets$Line", name := "<init>", desc := "()V" } : Jvm.MethodName))) ∈ gTb := gTb_in 296 (by decide +kernel) rfl
theorem wd297 : ((Jvm.Cond.code ({ cls := "DataSets$Line", name := "<init>", desc := "()V" } : Jvm.MethodName) prog_6_method_1_code (1 : Nat) (Option.none : Option Jvm.ClassFile.FieldType))) ∈ gTb := gTb_in 297 (by decide +kernel) rfl
theorem wd298 : ((Jvm.Cond.methodLink "DataSets$Line" (3 : Nat) ({ cls := "java/lang/Object", name := "<init>", desc := "()V" } : Jvm.MethodName))) ∈ gTb := gTb_in 298 (by decide +kernel) rfl
theorem wd299 : ((Jvm.Cond.fieldLink "DataSets$Line" (9 : Nat) "DataSets$Line" "jobs" "[I")) ∈ gTb := gTb_in 299 (by decide +kernel) rfl
theorem wd300 : ((Jvm.Cond.fieldLink "DataSets$Line" (15 : Nat) "DataSets$Line" "alone" "[Z")) ∈ gTb := gTb_in 300 (by decide +kernel) rfl
theorem wd301 : ((Jvm.Cond.fieldLink "DataSets$Line" (19 : Nat) "DataSets$Line" "size" "I")) ∈ gTb := gTb_in 301 (by decide +kernel) rfl
theorem wd303 : ((Jvm.Cond.fieldLink "DataSets$Line" (23 : Nat) "DataSets$Line" "holders" "I")) ∈ gTb := gTb_in 303 (by decide +kernel) rfl
theorem wd314 : ((Jvm.Cond.methodLink "DataSets" (133 : Nat) ({ cls := "DataSets$Line", name := "ask", desc := "(IZ)I" } : Jvm.MethodName))) ∈ gTb := gTb_in 314 (by decide +kernel) rfl
theorem wd315 : ((Jvm.Cond.instanceMethod ({ cls := "DataSets$Line", name := "ask", desc := "(IZ)I" } : Jvm.MethodName))) ∈ gTb := gTb_in 315 (by decide +kernel) rfl
theorem wd316 : ((Jvm.Cond.selects "DataSets$Line" ({ cls := "DataSets$Line", name := "ask", desc := "(IZ)I" } : Jvm.MethodName) ({ cls := "DataSets$Line", name := "ask", desc := "(IZ)I" } : Jvm.MethodName))) ∈ gTb := gTb_in 316 (by decide +kernel) rfl
theorem wd317 : ((Jvm.Cond.code ({ cls := "DataSets$Line", name := "ask", desc := "(IZ)I" } : Jvm.MethodName) prog_6_method_2_code (3 : Nat) (Option.some Jvm.ClassFile.FieldType.int))) ∈ gTb := gTb_in 317 (by decide +kernel) rfl
theorem wd318 : ((Jvm.Cond.methodLink "DataSets$Line" (26 : Nat) ({ cls := "DataSets$Line", name := "placeOf", desc := "(I)I" } : Jvm.MethodName))) ∈ gTb := gTb_in 318 (by decide +kernel) rfl
theorem wd320 : ((Jvm.Cond.instanceMethod ({ cls := "DataSets$Line", name := "placeOf", desc := "(I)I" } : Jvm.MethodName))) ∈ gTb := gTb_in 320 (by decide +kernel) rfl
theorem wd321 : ((Jvm.Cond.code ({ cls := "DataSets$Line", name := "placeOf", desc := "(I)I" } : Jvm.MethodName) prog_6_method_6_code (3 : Nat) (Option.some Jvm.ClassFile.FieldType.int))) ∈ gTb := gTb_in 321 (by decide +kernel) rfl
theorem wd322 : ((Jvm.Cond.methodLink "DataSets$Line" (30 : Nat) lw_adm)) ∈ gTb := gTb_in 322 (by decide +kernel) rfl
theorem wd324 : ((Jvm.Cond.instanceMethod lw_adm)) ∈ gTb := gTb_in 324 (by decide +kernel) rfl
theorem wd325 : ((Jvm.Cond.code lw_adm prog_6_method_4_code (1 : Nat) (Option.none : Option Jvm.ClassFile.FieldType))) ∈ gTb := gTb_in 325 (by decide +kernel) rfl
theorem wd326 : ((Jvm.Cond.methodLink "DataSets$Line" (33 : Nat) ({ cls := "DataSets$Line", name := "canHold", desc := "(Z)Z" } : Jvm.MethodName))) ∈ gTb := gTb_in 326 (by decide +kernel) rfl
theorem wd328 : ((Jvm.Cond.instanceMethod ({ cls := "DataSets$Line", name := "canHold", desc := "(Z)Z" } : Jvm.MethodName))) ∈ gTb := gTb_in 328 (by decide +kernel) rfl
theorem wd329 : ((Jvm.Cond.code ({ cls := "DataSets$Line", name := "canHold", desc := "(Z)Z" } : Jvm.MethodName) prog_6_method_5_code (2 : Nat) (Option.some Jvm.ClassFile.FieldType.boolean))) ∈ gTb := gTb_in 329 (by decide +kernel) rfl
theorem wd330 : ((Jvm.Cond.methodLink "DataSetsLaw" (73 : Nat) ({ cls := "DataSets", name := "free", desc := "(I)I" } : Jvm.MethodName))) ∈ gTb := gTb_in 330 (by decide +kernel) rfl
theorem wd331 : ((Jvm.Cond.instanceMethod ({ cls := "DataSets", name := "free", desc := "(I)I" } : Jvm.MethodName))) ∈ gTb := gTb_in 331 (by decide +kernel) rfl
theorem wd332 : ((Jvm.Cond.selects "DataSets" ({ cls := "DataSets", name := "free", desc := "(I)I" } : Jvm.MethodName) ({ cls := "DataSets", name := "free", desc := "(I)I" } : Jvm.MethodName))) ∈ gTb := gTb_in 332 (by decide +kernel) rfl
theorem wd333 : ((Jvm.Cond.code ({ cls := "DataSets", name := "free", desc := "(I)I" } : Jvm.MethodName) prog_1_method_13_code (4 : Nat) (Option.some Jvm.ClassFile.FieldType.int))) ∈ gTb := gTb_in 333 (by decide +kernel) rfl
theorem wd334 : ((Jvm.Cond.methodLink "DataSets" (137 : Nat) ({ cls := "DataSets$Line", name := "drop", desc := "(I)I" } : Jvm.MethodName))) ∈ gTb := gTb_in 334 (by decide +kernel) rfl
theorem wd335 : ((Jvm.Cond.instanceMethod ({ cls := "DataSets$Line", name := "drop", desc := "(I)I" } : Jvm.MethodName))) ∈ gTb := gTb_in 335 (by decide +kernel) rfl
theorem wd336 : ((Jvm.Cond.selects "DataSets$Line" ({ cls := "DataSets$Line", name := "drop", desc := "(I)I" } : Jvm.MethodName) ({ cls := "DataSets$Line", name := "drop", desc := "(I)I" } : Jvm.MethodName))) ∈ gTb := gTb_in 336 (by decide +kernel) rfl
theorem wd337 : ((Jvm.Cond.code ({ cls := "DataSets$Line", name := "drop", desc := "(I)I" } : Jvm.MethodName) prog_6_method_3_code (5 : Nat) (Option.some Jvm.ClassFile.FieldType.int))) ∈ gTb := gTb_in 337 (by decide +kernel) rfl
theorem wd338 : ((Jvm.Cond.methodLink "DataSetsLaw" (77 : Nat) ({ cls := "DataSets", name := "compress", desc := "(I)I" } : Jvm.MethodName))) ∈ gTb := gTb_in 338 (by decide +kernel) rfl
theorem wd339 : ((Jvm.Cond.instanceMethod ({ cls := "DataSets", name := "compress", desc := "(I)I" } : Jvm.MethodName))) ∈ gTb := gTb_in 339 (by decide +kernel) rfl
theorem wd340 : ((Jvm.Cond.selects "DataSets" ({ cls := "DataSets", name := "compress", desc := "(I)I" } : Jvm.MethodName) ({ cls := "DataSets", name := "compress", desc := "(I)I" } : Jvm.MethodName))) ∈ gTb := gTb_in 340 (by decide +kernel) rfl
theorem wd341 : ((Jvm.Cond.code ({ cls := "DataSets", name := "compress", desc := "(I)I" } : Jvm.MethodName) prog_1_method_14_code (3 : Nat) (Option.some Jvm.ClassFile.FieldType.int))) ∈ gTb := gTb_in 341 (by decide +kernel) rfl
theorem wd342 : ((Jvm.Cond.methodLink "DataSets" (140 : Nat) ({ cls := "DataSets$Directory", name := "closeGaps", desc := "()I" } : Jvm.MethodName))) ∈ gTb := gTb_in 342 (by decide +kernel) rfl
theorem wd343 : ((Jvm.Cond.instanceMethod ({ cls := "DataSets$Directory", name := "closeGaps", desc := "()I" } : Jvm.MethodName))) ∈ gTb := gTb_in 343 (by decide +kernel) rfl
theorem wd344 : ((Jvm.Cond.selects "DataSets$Directory" ({ cls := "DataSets$Directory", name := "closeGaps", desc := "()I" } : Jvm.MethodName) ({ cls := "DataSets$Directory", name := "closeGaps", desc := "()I" } : Jvm.MethodName))) ∈ gTb := gTb_in 344 (by decide +kernel) rfl
theorem wd345 : ((Jvm.Cond.code ({ cls := "DataSets$Directory", name := "closeGaps", desc := "()I" } : Jvm.MethodName) prog_4_method_5_code (3 : Nat) (Option.some Jvm.ClassFile.FieldType.int))) ∈ gTb := gTb_in 345 (by decide +kernel) rfl
theorem wd346 : ((Jvm.Cond.methodLink "DataSetsLaw" (81 : Nat) ({ cls := "DataSets", name := "release", desc := "(I)I" } : Jvm.MethodName))) ∈ gTb := gTb_in 346 (by decide +kernel) rfl
theorem wd347 : ((Jvm.Cond.instanceMethod ({ cls := "DataSets", name := "release", desc := "(I)I" } : Jvm.MethodName))) ∈ gTb := gTb_in 347 (by decide +kernel) rfl
theorem wd348 : ((Jvm.Cond.selects "DataSets" ({ cls := "DataSets", name := "release", desc := "(I)I" } : Jvm.MethodName) ({ cls := "DataSets", name := "release", desc := "(I)I" } : Jvm.MethodName))) ∈ gTb := gTb_in 348 (by decide +kernel) rfl
theorem wd349 : ((Jvm.Cond.code ({ cls := "DataSets", name := "release", desc := "(I)I" } : Jvm.MethodName) prog_1_method_15_code (3 : Nat) (Option.some Jvm.ClassFile.FieldType.int))) ∈ gTb := gTb_in 349 (by decide +kernel) rfl
theorem wd350 : ((Jvm.Cond.methodLink "DataSets" (143 : Nat) ({ cls := "java/lang/Math", name := "max", desc := "(II)I" } : Jvm.MethodName))) ∈ gTb := gTb_in 350 (by decide +kernel) rfl
theorem wd351 : ((Jvm.Cond.methodLink "DataSetsLaw" (85 : Nat) ({ cls := "DataSets", name := "space", desc := "(I)I" } : Jvm.MethodName))) ∈ gTb := gTb_in 351 (by decide +kernel) rfl
theorem wd352 : ((Jvm.Cond.instanceMethod ({ cls := "DataSets", name := "space", desc := "(I)I" } : Jvm.MethodName))) ∈ gTb := gTb_in 352 (by decide +kernel) rfl
theorem wd353 : ((Jvm.Cond.selects "DataSets" ({ cls := "DataSets", name := "space", desc := "(I)I" } : Jvm.MethodName) ({ cls := "DataSets", name := "space", desc := "(I)I" } : Jvm.MethodName))) ∈ gTb := gTb_in 353 (by decide +kernel) rfl
theorem wd354 : ((Jvm.Cond.code ({ cls := "DataSets", name := "space", desc := "(I)I" } : Jvm.MethodName) prog_1_method_16_code (2 : Nat) (Option.some Jvm.ClassFile.FieldType.int))) ∈ gTb := gTb_in 354 (by decide +kernel) rfl
theorem wd355 : ((Jvm.Cond.methodLink "DataSets" (149 : Nat) ({ cls := "DataSets$Volume", name := "freeTracks", desc := "()I" } : Jvm.MethodName))) ∈ gTb := gTb_in 355 (by decide +kernel) rfl
theorem wd356 : ((Jvm.Cond.instanceMethod ({ cls := "DataSets$Volume", name := "freeTracks", desc := "()I" } : Jvm.MethodName))) ∈ gTb := gTb_in 356 (by decide +kernel) rfl
theorem wd357 : ((Jvm.Cond.selects "DataSets$Volume" ({ cls := "DataSets$Volume", name := "freeTracks", desc := "()I" } : Jvm.MethodName) ({ cls := "DataSets$Volume", name := "freeTracks", desc := "()I" } : Jvm.MethodName))) ∈ gTb := gTb_in 357 (by decide +kernel) rfl
theorem wd358 : ((Jvm.Cond.code ({ cls := "DataSets$Volume", name := "freeTracks", desc := "()I" } : Jvm.MethodName) prog_7_method_4_code (3 : Nat) (Option.some Jvm.ClassFile.FieldType.int))) ∈ gTb := gTb_in 358 (by decide +kernel) rfl
theorem wd359 : ((Jvm.Cond.methodLink "DataSets" (152 : Nat) ({ cls := "DataSets$Volume", name := "longestRun", desc := "()I" } : Jvm.MethodName))) ∈ gTb := gTb_in 359 (by decide +kernel) rfl
theorem wd360 : ((Jvm.Cond.instanceMethod ({ cls := "DataSets$Volume", name := "longestRun", desc := "()I" } : Jvm.MethodName))) ∈ gTb := gTb_in 360 (by decide +kernel) rfl
theorem wd361 : ((Jvm.Cond.selects "DataSets$Volume" ({ cls := "DataSets$Volume", name := "longestRun", desc := "()I" } : Jvm.MethodName) ({ cls := "DataSets$Volume", name := "longestRun", desc := "()I" } : Jvm.MethodName))) ∈ gTb := gTb_in 361 (by decide +kernel) rfl
theorem wd362 : ((Jvm.Cond.code ({ cls := "DataSets$Volume", name := "longestRun", desc := "()I" } : Jvm.MethodName) prog_7_method_3_code (4 : Nat) (Option.some Jvm.ClassFile.FieldType.int))) ∈ gTb := gTb_in 362 (by decide +kernel) rfl
theorem wd363 : ((Jvm.Cond.methodLink "DataSets" (155 : Nat) ({ cls := "DataSets", name := "countSets", desc := "()I" } : Jvm.MethodName))) ∈ gTb := gTb_in 363 (by decide +kernel) rfl
theorem wd365 : ((Jvm.Cond.instanceMethod ({ cls := "DataSets", name := "countSets", desc := "()I" } : Jvm.MethodName))) ∈ gTb := gTb_in 365 (by decide +kernel) rfl
theorem wd366 : ((Jvm.Cond.code ({ cls := "DataSets", name := "countSets", desc := "()I" } : Jvm.MethodName) prog_1_method_24_code (3 : Nat) (Option.some Jvm.ClassFile.FieldType.int))) ∈ gTb := gTb_in 366 (by decide +kernel) rfl
theorem wd367 : ((Jvm.Cond.methodLink "DataSets" (158 : Nat) ({ cls := "DataSets", name := "countExtents", desc := "()I" } : Jvm.MethodName))) ∈ gTb := gTb_in 367 (by decide +kernel) rfl
theorem wd369 : ((Jvm.Cond.instanceMethod ({ cls := "DataSets", name := "countExtents", desc := "()I" } : Jvm.MethodName))) ∈ gTb := gTb_in 369 (by decide +kernel) rfl
theorem wd370 : ((Jvm.Cond.code ({ cls := "DataSets", name := "countExtents", desc := "()I" } : Jvm.MethodName) prog_1_method_25_code (3 : Nat) (Option.some Jvm.ClassFile.FieldType.int))) ∈ gTb := gTb_in 370 (by decide +kernel) rfl
theorem wd371 : ((Jvm.Cond.methodLink "DataSets" (161 : Nat) ({ cls := "DataSets", name := "countHoldings", desc := "()I" } : Jvm.MethodName))) ∈ gTb := gTb_in 371 (by decide +kernel) rfl
theorem wd373 : ((Jvm.Cond.instanceMethod ({ cls := "DataSets", name := "countHoldings", desc := "()I" } : Jvm.MethodName))) ∈ gTb := gTb_in 373 (by decide +kernel) rfl
theorem wd374 : ((Jvm.Cond.code ({ cls := "DataSets", name := "countHoldings", desc := "()I" } : Jvm.MethodName) prog_1_method_26_code (3 : Nat) (Option.some Jvm.ClassFile.FieldType.int))) ∈ gTb := gTb_in 374 (by decide +kernel) rfl
theorem wd375 : ((Jvm.Cond.methodLink "DataSets" (164 : Nat) ({ cls := "DataSets", name := "countWaiting", desc := "()I" } : Jvm.MethodName))) ∈ gTb := gTb_in 375 (by decide +kernel) rfl
theorem wd377 : ((Jvm.Cond.instanceMethod ({ cls := "DataSets", name := "countWaiting", desc := "()I" } : Jvm.MethodName))) ∈ gTb := gTb_in 377 (by decide +kernel) rfl
theorem wd378 : ((Jvm.Cond.code ({ cls := "DataSets", name := "countWaiting", desc := "()I" } : Jvm.MethodName) prog_1_method_27_code (3 : Nat) (Option.some Jvm.ClassFile.FieldType.int))) ∈ gTb := gTb_in 378 (by decide +kernel) rfl
theorem wd379 : ((Jvm.Cond.methodLink "DataSetsLaw" (89 : Nat) ({ cls := "DataSets", name := "extent", desc := "(III)I" } : Jvm.MethodName))) ∈ gTb := gTb_in 379 (by decide +kernel) rfl
theorem wd380 : ((Jvm.Cond.instanceMethod ({ cls := "DataSets", name := "extent", desc := "(III)I" } : Jvm.MethodName))) ∈ gTb := gTb_in 380 (by decide +kernel) rfl
theorem wd381 : ((Jvm.Cond.selects "DataSets" ({ cls := "DataSets", name := "extent", desc := "(III)I" } : Jvm.MethodName) ({ cls := "DataSets", name := "extent", desc := "(III)I" } : Jvm.MethodName))) ∈ gTb := gTb_in 381 (by decide +kernel) rfl
theorem wd382 : ((Jvm.Cond.code ({ cls := "DataSets", name := "extent", desc := "(III)I" } : Jvm.MethodName) prog_1_method_17_code (5 : Nat) (Option.some Jvm.ClassFile.FieldType.int))) ∈ gTb := gTb_in 382 (by decide +kernel) rfl
theorem wd383 : ((Jvm.Cond.methodLink "DataSetsLaw" (9 : Nat) ({ cls := "DataSetsLaw", name := "cell", desc := "([II)I" } : Jvm.MethodName))) ∈ gTb := gTb_in 383 (by decide +kernel) rfl
theorem wd384 : ((Jvm.Cond.static ({ cls := "DataSetsLaw", name := "cell", desc := "([II)I" } : Jvm.MethodName))) ∈ gTb := gTb_in 384 (by decide +kernel) rfl
theorem wd385 : ((Jvm.Cond.code ({ cls := "DataSetsLaw", name := "cell", desc := "([II)I" } : Jvm.MethodName) method_2_code (2 : Nat) (Option.some Jvm.ClassFile.FieldType.int))) ∈ gTb := gTb_in 385 (by decide +kernel) rfl
theorem wd386 : ((Jvm.Cond.classLink "DataSetsLaw" (18 : Nat) "DataSetsModel")) ∈ gTb := gTb_in 386 (by decide +kernel) rfl
theorem wd387 : ((Jvm.Cond.instantiable "DataSetsModel" (21 : Nat))) ∈ gTb := gTb_in 387 (by decide +kernel) rfl
theorem wd388 : ((Jvm.Cond.methodLink "DataSetsLaw" (20 : Nat) ({ cls := "DataSetsModel", name := "<init>", desc := "(I)V" } : Jvm.MethodName))) ∈ gTb := gTb_in 388 (by decide +kernel) rfl
theorem wd389 : ((Jvm.Cond.instanceMethod ({ cls := "DataSetsModel", name := "<init>", desc := "(I)V" } : Jvm.MethodName))) ∈ gTb := gTb_in 389 (by decide +kernel) rfl
theorem wd390 : ((Jvm.Cond.code ({ cls := "DataSetsModel", name := "<init>", desc := "(I)V" } : Jvm.MethodName) prog_9_method_1_code (3 : Nat) (Option.none : Option Jvm.ClassFile.FieldType))) ∈ gTb := gTb_in 390 (by decide +kernel) rfl
theorem wd391 : ((Jvm.Cond.methodLink "DataSetsModel" (1 : Nat) ({ cls := "java/lang/Object", name := "<init>", desc := "()V" } : Jvm.MethodName))) ∈ gTb := gTb_in 391 (by decide +kernel) rfl
theorem wd392 : ((Jvm.Cond.fieldLink "DataSetsModel" (67 : Nat) "DataSetsModel" "code" "I")) ∈ gTb := gTb_in 392 (by decide +kernel) rfl
theorem wd393 : ((Jvm.Cond.fieldLink "DataSetsModel" (63 : Nat) "DataSetsModel" "tracks" "I")) ∈ gTb := gTb_in 393 (by decide +kernel) rfl
theorem wd394 : ((Jvm.Cond.fieldLink "DataSetsModel" (7 : Nat) "DataSetsModel" "owners" "[I")) ∈ gTb := gTb_in 394 (by decide +kernel) rfl
theorem wd395 : ((Jvm.Cond.fieldLink "DataSetsModel" (70 : Nat) "DataSetsModel" "sets" "I")) ∈ gTb := gTb_in 395 (by decide +kernel) rfl
theorem wd396 : ((Jvm.Cond.fieldLink "DataSetsModel" (13 : Nat) "DataSetsModel" "gone" "[Z")) ∈ gTb := gTb_in 396 (by decide +kernel) rfl
theorem wd397 : ((Jvm.Cond.fieldLink "DataSetsModel" (17 : Nat) "DataSetsModel" "names" "[I")) ∈ gTb := gTb_in 397 (by decide +kernel) rfl
theorem wd398 : ((Jvm.Cond.fieldLink "DataSetsModel" (20 : Nat) "DataSetsModel" "furthers" "[I")) ∈ gTb := gTb_in 398 (by decide +kernel) rfl
theorem wd399 : ((Jvm.Cond.fieldLink "DataSetsModel" (23 : Nat) "DataSetsModel" "givens" "[I")) ∈ gTb := gTb_in 399 (by decide +kernel) rfl
theorem wd400 : ((Jvm.Cond.fieldLink "DataSetsModel" (26 : Nat) "DataSetsModel" "many" "[I")) ∈ gTb := gTb_in 400 (by decide +kernel) rfl
theorem wd401 : ((Jvm.Cond.fieldLink "DataSetsModel" (29 : Nat) "DataSetsModel" "extents" "[I")) ∈ gTb := gTb_in 401 (by decide +kernel) rfl
theorem wd402 : ((Jvm.Cond.fieldLink "DataSetsModel" (32 : Nat) "DataSetsModel" "guards" "[J")) ∈ gTb := gTb_in 402 (by decide +kernel) rfl
theorem wd403 : ((Jvm.Cond.fieldLink "DataSetsModel" (36 : Nat) "DataSetsModel" "memberNames" "[I")) ∈ gTb := gTb_in 403 (by decide +kernel) rfl
theorem wd404 : ((Jvm.Cond.fieldLink "DataSetsModel" (39 : Nat) "DataSetsModel" "memberFirsts" "[I")) ∈ gTb := gTb_in 404 (by decide +kernel) rfl
theorem wd405 : ((Jvm.Cond.fieldLink "DataSetsModel" (42 : Nat) "DataSetsModel" "memberSizes" "[I")) ∈ gTb := gTb_in 405 (by decide +kernel) rfl
theorem wd406 : ((Jvm.Cond.fieldLink "DataSetsModel" (45 : Nat) "DataSetsModel" "attributes" "[I")) ∈ gTb := gTb_in 406 (by decide +kernel) rfl
theorem wd407 : ((Jvm.Cond.fieldLink "DataSetsModel" (48 : Nat) "DataSetsModel" "told" "[Z")) ∈ gTb := gTb_in 407 (by decide +kernel) rfl
theorem wd408 : ((Jvm.Cond.fieldLink "DataSetsModel" (51 : Nat) "DataSetsModel" "askNames" "[I")) ∈ gTb := gTb_in 408 (by decide +kernel) rfl
theorem wd409 : ((Jvm.Cond.fieldLink "DataSetsModel" (54 : Nat) "DataSetsModel" "askJobs" "[I")) ∈ gTb := gTb_in 409 (by decide +kernel) rfl
theorem wd410 : ((Jvm.Cond.fieldLink "DataSetsModel" (57 : Nat) "DataSetsModel" "askAlone" "[Z")) ∈ gTb := gTb_in 410 (by decide +kernel) rfl
theorem wd411 : ((Jvm.Cond.fieldLink "DataSetsModel" (60 : Nat) "DataSetsModel" "askWaits" "[Z")) ∈ gTb := gTb_in 411 (by decide +kernel) rfl
theorem wd412 : ((Jvm.Cond.fieldLink "DataSetsModel" (100 : Nat) "DataSetsModel" "asks" "I")) ∈ gTb := gTb_in 412 (by decide +kernel) rfl
theorem wd457 : ((Jvm.Cond.methodLink "DataSetsLaw" (25 : Nat) ({ cls := "DataSetsModel", name := "make", desc := "(III)I" } : Jvm.MethodName))) ∈ gTb := gTb_in 457 (by decide +kernel) rfl
theorem wd458 : ((Jvm.Cond.instanceMethod ({ cls := "DataSetsModel", name := "make", desc := "(III)I" } : Jvm.MethodName))) ∈ gTb := gTb_in 458 (by decide +kernel) rfl
theorem wd459 : ((Jvm.Cond.selects "DataSetsModel" ({ cls := "DataSetsModel", name := "make", desc := "(III)I" } : Jvm.MethodName) ({ cls := "DataSetsModel", name := "make", desc := "(III)I" } : Jvm.MethodName))) ∈ gTb := gTb_in 459 (by decide +kernel) rfl
theorem wd460 : ((Jvm.Cond.code ({ cls := "DataSetsModel", name := "make", desc := "(III)I" } : Jvm.MethodName) prog_9_method_9_code (5 : Nat) (Option.some Jvm.ClassFile.FieldType.int))) ∈ gTb := gTb_in 460 (by decide +kernel) rfl
theorem wd461 : ((Jvm.Cond.methodLink "DataSetsModel" (73 : Nat) ({ cls := "DataSetsModel", name := "isName", desc := "(I)Z" } : Jvm.MethodName))) ∈ gTb := gTb_in 461 (by decide +kernel) rfl
theorem wd462 : ((Jvm.Cond.static ({ cls := "DataSetsModel", name := "isName", desc := "(I)Z" } : Jvm.MethodName))) ∈ gTb := gTb_in 462 (by decide +kernel) rfl
theorem wd463 : ((Jvm.Cond.code ({ cls := "DataSetsModel", name := "isName", desc := "(I)Z" } : Jvm.MethodName) prog_9_method_3_code (1 : Nat) (Option.some Jvm.ClassFile.FieldType.boolean))) ∈ gTb := gTb_in 463 (by decide +kernel) rfl
theorem wd464 : ((Jvm.Cond.methodLink "DataSetsModel" (77 : Nat) ({ cls := "DataSetsModel", name := "named", desc := "(I)I" } : Jvm.MethodName))) ∈ gTb := gTb_in 464 (by decide +kernel) rfl
theorem wd466 : ((Jvm.Cond.instanceMethod ({ cls := "DataSetsModel", name := "named", desc := "(I)I" } : Jvm.MethodName))) ∈ gTb := gTb_in 466 (by decide +kernel) rfl
theorem wd467 : ((Jvm.Cond.code ({ cls := "DataSetsModel", name := "named", desc := "(I)I" } : Jvm.MethodName) prog_9_method_5_code (4 : Nat) (Option.some Jvm.ClassFile.FieldType.int))) ∈ gTb := gTb_in 467 (by decide +kernel) rfl
theorem wd468 : ((Jvm.Cond.methodLink "DataSetsModel" (81 : Nat) ({ cls := "DataSetsModel", name := "place", desc := "(I)I" } : Jvm.MethodName))) ∈ gTb := gTb_in 468 (by decide +kernel) rfl
theorem wd470 : ((Jvm.Cond.instanceMethod ({ cls := "DataSetsModel", name := "place", desc := "(I)I" } : Jvm.MethodName))) ∈ gTb := gTb_in 470 (by decide +kernel) rfl
theorem wd471 : ((Jvm.Cond.code ({ cls := "DataSetsModel", name := "place", desc := "(I)I" } : Jvm.MethodName) prog_9_method_6_code (4 : Nat) (Option.some Jvm.ClassFile.FieldType.int))) ∈ gTb := gTb_in 471 (by decide +kernel) rfl
theorem wd472 : ((Jvm.Cond.constantLong "DataSetsModel" (84 : Nat) (-9223372036854775808 : Int64))) ∈ gTb := gTb_in 472 (by decide +kernel) rfl
theorem wd473 : ((Jvm.Cond.methodLink "DataSetsModel" (86 : Nat) ({ cls := "DataSetsModel", name := "take", desc := "(III)V" } : Jvm.MethodName))) ∈ gTb := gTb_in 473 (by decide +kernel) rfl
theorem wd475 : ((Jvm.Cond.instanceMethod ({ cls := "DataSetsModel", name := "take", desc := "(III)V" } : Jvm.MethodName))) ∈ gTb := gTb_in 475 (by decide +kernel) rfl
theorem wd476 : ((Jvm.Cond.code ({ cls := "DataSetsModel", name := "take", desc := "(III)V" } : Jvm.MethodName) prog_9_method_7_code (5 : Nat) (Option.none : Option Jvm.ClassFile.FieldType))) ∈ gTb := gTb_in 476 (by decide +kernel) rfl
theorem wd477 : ((Jvm.Cond.methodLink "DataSetsLaw" (30 : Nat) ({ cls := "DataSetsModel", name := "extend", desc := "(I)I" } : Jvm.MethodName))) ∈ gTb := gTb_in 477 (by decide +kernel) rfl
theorem wd478 : ((Jvm.Cond.instanceMethod ({ cls := "DataSetsModel", name := "extend", desc := "(I)I" } : Jvm.MethodName))) ∈ gTb := gTb_in 478 (by decide +kernel) rfl
theorem wd479 : ((Jvm.Cond.selects "DataSetsModel" ({ cls := "DataSetsModel", name := "extend", desc := "(I)I" } : Jvm.MethodName) ({ cls := "DataSetsModel", name := "extend", desc := "(I)I" } : Jvm.MethodName))) ∈ gTb := gTb_in 479 (by decide +kernel) rfl
theorem wd480 : ((Jvm.Cond.code ({ cls := "DataSetsModel", name := "extend", desc := "(I)I" } : Jvm.MethodName) prog_9_method_10_code (3 : Nat) (Option.some Jvm.ClassFile.FieldType.int))) ∈ gTb := gTb_in 480 (by decide +kernel) rfl
theorem wd481 : ((Jvm.Cond.methodLink "DataSetsModel" (90 : Nat) ({ cls := "DataSetsModel", name := "isSet", desc := "(I)Z" } : Jvm.MethodName))) ∈ gTb := gTb_in 481 (by decide +kernel) rfl
theorem wd483 : ((Jvm.Cond.instanceMethod ({ cls := "DataSetsModel", name := "isSet", desc := "(I)Z" } : Jvm.MethodName))) ∈ gTb := gTb_in 483 (by decide +kernel) rfl
theorem wd484 : ((Jvm.Cond.code ({ cls := "DataSetsModel", name := "isSet", desc := "(I)Z" } : Jvm.MethodName) prog_9_method_4_code (2 : Nat) (Option.some Jvm.ClassFile.FieldType.boolean))) ∈ gTb := gTb_in 484 (by decide +kernel) rfl
theorem wd485 : ((Jvm.Cond.methodLink "DataSetsLaw" (34 : Nat) ({ cls := "DataSetsModel", name := "find", desc := "(I)I" } : Jvm.MethodName))) ∈ gTb := gTb_in 485 (by decide +kernel) rfl
theorem wd486 : ((Jvm.Cond.instanceMethod ({ cls := "DataSetsModel", name := "find", desc := "(I)I" } : Jvm.MethodName))) ∈ gTb := gTb_in 486 (by decide +kernel) rfl
theorem wd487 : ((Jvm.Cond.selects "DataSetsModel" ({ cls := "DataSetsModel", name := "find", desc := "(I)I" } : Jvm.MethodName) ({ cls := "DataSetsModel", name := "find", desc := "(I)I" } : Jvm.MethodName))) ∈ gTb := gTb_in 487 (by decide +kernel) rfl
theorem wd488 : ((Jvm.Cond.code ({ cls := "DataSetsModel", name := "find", desc := "(I)I" } : Jvm.MethodName) prog_9_method_11_code (2 : Nat) (Option.some Jvm.ClassFile.FieldType.int))) ∈ gTb := gTb_in 488 (by decide +kernel) rfl
theorem wd489 : ((Jvm.Cond.methodLink "DataSetsLaw" (38 : Nat) ({ cls := "DataSetsModel", name := "member", desc := "(III)I" } : Jvm.MethodName))) ∈ gTb := gTb_in 489 (by decide +kernel) rfl
theorem wd490 : ((Jvm.Cond.instanceMethod ({ cls := "DataSetsModel", name := "member", desc := "(III)I" } : Jvm.MethodName))) ∈ gTb := gTb_in 490 (by decide +kernel) rfl
theorem wd491 : ((Jvm.Cond.selects "DataSetsModel" ({ cls := "DataSetsModel", name := "member", desc := "(III)I" } : Jvm.MethodName) ({ cls := "DataSetsModel", name := "member", desc := "(III)I" } : Jvm.MethodName))) ∈ gTb := gTb_in 491 (by decide +kernel) rfl
theorem wd492 : ((Jvm.Cond.code ({ cls := "DataSetsModel", name := "member", desc := "(III)I" } : Jvm.MethodName) prog_9_method_13_code (6 : Nat) (Option.some Jvm.ClassFile.FieldType.int))) ∈ gTb := gTb_in 492 (by decide +kernel) rfl
theorem wd493 : ((Jvm.Cond.methodLink "DataSetsModel" (93 : Nat) ({ cls := "DataSetsModel", name := "memberOf", desc := "(II)I" } : Jvm.MethodName))) ∈ gTb := gTb_in 493 (by decide +kernel) rfl
theorem wd495 : ((Jvm.Cond.instanceMethod ({ cls := "DataSetsModel", name := "memberOf", desc := "(II)I" } : Jvm.MethodName))) ∈ gTb := gTb_in 495 (by decide +kernel) rfl
theorem wd496 : ((Jvm.Cond.code ({ cls := "DataSetsModel", name := "memberOf", desc := "(II)I" } : Jvm.MethodName) prog_9_method_12_code (5 : Nat) (Option.some Jvm.ClassFile.FieldType.int))) ∈ gTb := gTb_in 496 (by decide +kernel) rfl
theorem wd497 : ((Jvm.Cond.methodLink "DataSetsModel" (97 : Nat) ({ cls := "DataSetsModel", name := "tracksOf", desc := "(I)I" } : Jvm.MethodName))) ∈ gTb := gTb_in 497 (by decide +kernel) rfl
theorem wd499 : ((Jvm.Cond.instanceMethod ({ cls := "DataSetsModel", name := "tracksOf", desc := "(I)I" } : Jvm.MethodName))) ∈ gTb := gTb_in 499 (by decide +kernel) rfl
theorem wd500 : ((Jvm.Cond.code ({ cls := "DataSetsModel", name := "tracksOf", desc := "(I)I" } : Jvm.MethodName) prog_9_method_8_code (4 : Nat) (Option.some Jvm.ClassFile.FieldType.int))) ∈ gTb := gTb_in 500 (by decide +kernel) rfl
theorem wd501 : ((Jvm.Cond.methodLink "DataSetsLaw" (43 : Nat) ({ cls := "DataSetsModel", name := "track", desc := "(II)I" } : Jvm.MethodName))) ∈ gTb := gTb_in 501 (by decide +kernel) rfl
theorem wd502 : ((Jvm.Cond.instanceMethod ({ cls := "DataSetsModel", name := "track", desc := "(II)I" } : Jvm.MethodName))) ∈ gTb := gTb_in 502 (by decide +kernel) rfl
theorem wd503 : ((Jvm.Cond.selects "DataSetsModel" ({ cls := "DataSetsModel", name := "track", desc := "(II)I" } : Jvm.MethodName) ({ cls := "DataSetsModel", name := "track", desc := "(II)I" } : Jvm.MethodName))) ∈ gTb := gTb_in 503 (by decide +kernel) rfl
theorem wd504 : ((Jvm.Cond.code ({ cls := "DataSetsModel", name := "track", desc := "(II)I" } : Jvm.MethodName) prog_9_method_14_code (6 : Nat) (Option.some Jvm.ClassFile.FieldType.int))) ∈ gTb := gTb_in 504 (by decide +kernel) rfl
theorem wd505 : ((Jvm.Cond.methodLink "DataSetsLaw" (80 : Nat) ({ cls := "DataSetsModel", name := "compress", desc := "(I)I" } : Jvm.MethodName))) ∈ gTb := gTb_in 505 (by decide +kernel) rfl
theorem wd506 : ((Jvm.Cond.instanceMethod ({ cls := "DataSetsModel", name := "compress", desc := "(I)I" } : Jvm.MethodName))) ∈ gTb := gTb_in 506 (by decide +kernel) rfl
theorem wd507 : ((Jvm.Cond.selects "DataSetsModel" ({ cls := "DataSetsModel", name := "compress", desc := "(I)I" } : Jvm.MethodName) ({ cls := "DataSetsModel", name := "compress", desc := "(I)I" } : Jvm.MethodName))) ∈ gTb := gTb_in 507 (by decide +kernel) rfl
theorem wd508 : ((Jvm.Cond.code ({ cls := "DataSetsModel", name := "compress", desc := "(I)I" } : Jvm.MethodName) prog_9_method_15_code (6 : Nat) (Option.some Jvm.ClassFile.FieldType.int))) ∈ gTb := gTb_in 508 (by decide +kernel) rfl
theorem wd509 : ((Jvm.Cond.methodLink "DataSetsLaw" (84 : Nat) ({ cls := "DataSetsModel", name := "release", desc := "(I)I" } : Jvm.MethodName))) ∈ gTb := gTb_in 509 (by decide +kernel) rfl
theorem wd510 : ((Jvm.Cond.instanceMethod ({ cls := "DataSetsModel", name := "release", desc := "(I)I" } : Jvm.MethodName))) ∈ gTb := gTb_in 510 (by decide +kernel) rfl
theorem wd511 : ((Jvm.Cond.selects "DataSetsModel" ({ cls := "DataSetsModel", name := "release", desc := "(I)I" } : Jvm.MethodName) ({ cls := "DataSetsModel", name := "release", desc := "(I)I" } : Jvm.MethodName))) ∈ gTb := gTb_in 511 (by decide +kernel) rfl
theorem wd512 : ((Jvm.Cond.code ({ cls := "DataSetsModel", name := "release", desc := "(I)I" } : Jvm.MethodName) prog_9_method_16_code (10 : Nat) (Option.some Jvm.ClassFile.FieldType.int))) ∈ gTb := gTb_in 512 (by decide +kernel) rfl
theorem wd513 : ((Jvm.Cond.methodLink "DataSetsLaw" (50 : Nat) ({ cls := "DataSetsModel", name := "remove", desc := "(IJ)I" } : Jvm.MethodName))) ∈ gTb := gTb_in 513 (by decide +kernel) rfl
theorem wd514 : ((Jvm.Cond.instanceMethod ({ cls := "DataSetsModel", name := "remove", desc := "(IJ)I" } : Jvm.MethodName))) ∈ gTb := gTb_in 514 (by decide +kernel) rfl
theorem wd515 : ((Jvm.Cond.selects "DataSetsModel" ({ cls := "DataSetsModel", name := "remove", desc := "(IJ)I" } : Jvm.MethodName) ({ cls := "DataSetsModel", name := "remove", desc := "(IJ)I" } : Jvm.MethodName))) ∈ gTb := gTb_in 515 (by decide +kernel) rfl
theorem wd516 : ((Jvm.Cond.code ({ cls := "DataSetsModel", name := "remove", desc := "(IJ)I" } : Jvm.MethodName) prog_9_method_18_code (6 : Nat) (Option.some Jvm.ClassFile.FieldType.int))) ∈ gTb := gTb_in 516 (by decide +kernel) rfl
theorem wd517 : ((Jvm.Cond.methodLink "DataSetsModel" (103 : Nat) ({ cls := "DataSetsModel", name := "isAsked", desc := "(I)Z" } : Jvm.MethodName))) ∈ gTb := gTb_in 517 (by decide +kernel) rfl
theorem wd519 : ((Jvm.Cond.instanceMethod ({ cls := "DataSetsModel", name := "isAsked", desc := "(I)Z" } : Jvm.MethodName))) ∈ gTb := gTb_in 519 (by decide +kernel) rfl
theorem wd520 : ((Jvm.Cond.code ({ cls := "DataSetsModel", name := "isAsked", desc := "(I)Z" } : Jvm.MethodName) prog_9_method_17_code (4 : Nat) (Option.some Jvm.ClassFile.FieldType.boolean))) ∈ gTb := gTb_in 520 (by decide +kernel) rfl
theorem wd521 : ((Jvm.Cond.methodLink "DataSetsLaw" (54 : Nat) ({ cls := "DataSetsModel", name := "guard", desc := "(IJ)I" } : Jvm.MethodName))) ∈ gTb := gTb_in 521 (by decide +kernel) rfl
theorem wd522 : ((Jvm.Cond.instanceMethod ({ cls := "DataSetsModel", name := "guard", desc := "(IJ)I" } : Jvm.MethodName))) ∈ gTb := gTb_in 522 (by decide +kernel) rfl
theorem wd523 : ((Jvm.Cond.selects "DataSetsModel" ({ cls := "DataSetsModel", name := "guard", desc := "(IJ)I" } : Jvm.MethodName) ({ cls := "DataSetsModel", name := "guard", desc := "(IJ)I" } : Jvm.MethodName))) ∈ gTb := gTb_in 523 (by decide +kernel) rfl
theorem wd524 : ((Jvm.Cond.code ({ cls := "DataSetsModel", name := "guard", desc := "(IJ)I" } : Jvm.MethodName) prog_9_method_19_code (4 : Nat) (Option.some Jvm.ClassFile.FieldType.int))) ∈ gTb := gTb_in 524 (by decide +kernel) rfl
theorem wd525 : ((Jvm.Cond.methodLink "DataSetsLaw" (58 : Nat) ({ cls := "DataSetsModel", name := "rename", desc := "(II)I" } : Jvm.MethodName))) ∈ gTb := gTb_in 525 (by decide +kernel) rfl
theorem wd526 : ((Jvm.Cond.instanceMethod ({ cls := "DataSetsModel", name := "rename", desc := "(II)I" } : Jvm.MethodName))) ∈ gTb := gTb_in 526 (by decide +kernel) rfl
theorem wd527 : ((Jvm.Cond.selects "DataSetsModel" ({ cls := "DataSetsModel", name := "rename", desc := "(II)I" } : Jvm.MethodName) ({ cls := "DataSetsModel", name := "rename", desc := "(II)I" } : Jvm.MethodName))) ∈ gTb := gTb_in 527 (by decide +kernel) rfl
theorem wd528 : ((Jvm.Cond.code ({ cls := "DataSetsModel", name := "rename", desc := "(II)I" } : Jvm.MethodName) prog_9_method_20_code (4 : Nat) (Option.some Jvm.ClassFile.FieldType.int))) ∈ gTb := gTb_in 528 (by decide +kernel) rfl
theorem wd529 : ((Jvm.Cond.methodLink "DataSetsLaw" (72 : Nat) ({ cls := "DataSetsModel", name := "enqueue", desc := "(IIZ)I" } : Jvm.MethodName))) ∈ gTb := gTb_in 529 (by decide +kernel) rfl
theorem wd530 : ((Jvm.Cond.instanceMethod ({ cls := "DataSetsModel", name := "enqueue", desc := "(IIZ)I" } : Jvm.MethodName))) ∈ gTb := gTb_in 530 (by decide +kernel) rfl
theorem wd531 : ((Jvm.Cond.selects "DataSetsModel" ({ cls := "DataSetsModel", name := "enqueue", desc := "(IIZ)I" } : Jvm.MethodName) ({ cls := "DataSetsModel", name := "enqueue", desc := "(IIZ)I" } : Jvm.MethodName))) ∈ gTb := gTb_in 531 (by decide +kernel) rfl
theorem wd532 : ((Jvm.Cond.code ({ cls := "DataSetsModel", name := "enqueue", desc := "(IIZ)I" } : Jvm.MethodName) prog_9_method_23_code (5 : Nat) (Option.some Jvm.ClassFile.FieldType.int))) ∈ gTb := gTb_in 532 (by decide +kernel) rfl
theorem wd533 : ((Jvm.Cond.methodLink "DataSetsModel" (106 : Nat) ({ cls := "DataSetsModel", name := "isAwaited", desc := "(I)Z" } : Jvm.MethodName))) ∈ gTb := gTb_in 533 (by decide +kernel) rfl
theorem wd535 : ((Jvm.Cond.instanceMethod ({ cls := "DataSetsModel", name := "isAwaited", desc := "(I)Z" } : Jvm.MethodName))) ∈ gTb := gTb_in 535 (by decide +kernel) rfl
theorem wd536 : ((Jvm.Cond.code ({ cls := "DataSetsModel", name := "isAwaited", desc := "(I)Z" } : Jvm.MethodName) prog_9_method_22_code (4 : Nat) (Option.some Jvm.ClassFile.FieldType.boolean))) ∈ gTb := gTb_in 536 (by decide +kernel) rfl
theorem wd537 : ((Jvm.Cond.methodLink "DataSetsModel" (109 : Nat) ({ cls := "DataSetsModel", name := "can", desc := "(IZ)Z" } : Jvm.MethodName))) ∈ gTb := gTb_in 537 (by decide +kernel) rfl
theorem wd539 : ((Jvm.Cond.instanceMethod ({ cls := "DataSetsModel", name := "can", desc := "(IZ)Z" } : Jvm.MethodName))) ∈ gTb := gTb_in 539 (by decide +kernel) rfl
theorem wd540 : ((Jvm.Cond.code ({ cls := "DataSetsModel", name := "can", desc := "(IZ)Z" } : Jvm.MethodName) prog_9_method_21_code (5 : Nat) (Option.some Jvm.ClassFile.FieldType.boolean))) ∈ gTb := gTb_in 540 (by decide +kernel) rfl
theorem wd541 : ((Jvm.Cond.methodLink "DataSetsLaw" (76 : Nat) ({ cls := "DataSetsModel", name := "free", desc := "(I)I" } : Jvm.MethodName))) ∈ gTb := gTb_in 541 (by decide +kernel) rfl
theorem wd542 : ((Jvm.Cond.instanceMethod ({ cls := "DataSetsModel", name := "free", desc := "(I)I" } : Jvm.MethodName))) ∈ gTb := gTb_in 542 (by decide +kernel) rfl
theorem wd543 : ((Jvm.Cond.selects "DataSetsModel" ({ cls := "DataSetsModel", name := "free", desc := "(I)I" } : Jvm.MethodName) ({ cls := "DataSetsModel", name := "free", desc := "(I)I" } : Jvm.MethodName))) ∈ gTb := gTb_in 543 (by decide +kernel) rfl
theorem wd544 : ((Jvm.Cond.code ({ cls := "DataSetsModel", name := "free", desc := "(I)I" } : Jvm.MethodName) prog_9_method_25_code (5 : Nat) (Option.some Jvm.ClassFile.FieldType.int))) ∈ gTb := gTb_in 544 (by decide +kernel) rfl
theorem wd545 : ((Jvm.Cond.methodLink "DataSetsModel" (113 : Nat) ({ cls := "DataSetsModel", name := "grant", desc := "(I)V" } : Jvm.MethodName))) ∈ gTb := gTb_in 545 (by decide +kernel) rfl
theorem wd547 : ((Jvm.Cond.instanceMethod ({ cls := "DataSetsModel", name := "grant", desc := "(I)V" } : Jvm.MethodName))) ∈ gTb := gTb_in 547 (by decide +kernel) rfl
theorem wd548 : ((Jvm.Cond.code ({ cls := "DataSetsModel", name := "grant", desc := "(I)V" } : Jvm.MethodName) prog_9_method_24_code (3 : Nat) (Option.none : Option Jvm.ClassFile.FieldType))) ∈ gTb := gTb_in 548 (by decide +kernel) rfl
theorem wd549 : ((Jvm.Cond.methodLink "DataSetsLaw" (63 : Nat) ({ cls := "DataSetsModel", name := "attribute", desc := "(IIII)I" } : Jvm.MethodName))) ∈ gTb := gTb_in 549 (by decide +kernel) rfl
theorem wd550 : ((Jvm.Cond.instanceMethod ({ cls := "DataSetsModel", name := "attribute", desc := "(IIII)I" } : Jvm.MethodName))) ∈ gTb := gTb_in 550 (by decide +kernel) rfl
theorem wd551 : ((Jvm.Cond.selects "DataSetsModel" ({ cls := "DataSetsModel", name := "attribute", desc := "(IIII)I" } : Jvm.MethodName) ({ cls := "DataSetsModel", name := "attribute", desc := "(IIII)I" } : Jvm.MethodName))) ∈ gTb := gTb_in 551 (by decide +kernel) rfl
theorem wd552 : ((Jvm.Cond.code ({ cls := "DataSetsModel", name := "attribute", desc := "(IIII)I" } : Jvm.MethodName) prog_9_method_26_code (5 : Nat) (Option.some Jvm.ClassFile.FieldType.int))) ∈ gTb := gTb_in 552 (by decide +kernel) rfl
theorem wd553 : ((Jvm.Cond.methodLink "DataSetsLaw" (67 : Nat) ({ cls := "DataSetsModel", name := "merged", desc := "(II)I" } : Jvm.MethodName))) ∈ gTb := gTb_in 553 (by decide +kernel) rfl
theorem wd554 : ((Jvm.Cond.instanceMethod ({ cls := "DataSetsModel", name := "merged", desc := "(II)I" } : Jvm.MethodName))) ∈ gTb := gTb_in 554 (by decide +kernel) rfl
theorem wd555 : ((Jvm.Cond.selects "DataSetsModel" ({ cls := "DataSetsModel", name := "merged", desc := "(II)I" } : Jvm.MethodName) ({ cls := "DataSetsModel", name := "merged", desc := "(II)I" } : Jvm.MethodName))) ∈ gTb := gTb_in 555 (by decide +kernel) rfl
theorem wd556 : ((Jvm.Cond.code ({ cls := "DataSetsModel", name := "merged", desc := "(II)I" } : Jvm.MethodName) prog_9_method_27_code (4 : Nat) (Option.some Jvm.ClassFile.FieldType.int))) ∈ gTb := gTb_in 556 (by decide +kernel) rfl
theorem wd557 : ((Jvm.Cond.methodLink "DataSetsLaw" (92 : Nat) ({ cls := "DataSetsModel", name := "extent", desc := "(III)I" } : Jvm.MethodName))) ∈ gTb := gTb_in 557 (by decide +kernel) rfl
theorem wd558 : ((Jvm.Cond.instanceMethod ({ cls := "DataSetsModel", name := "extent", desc := "(III)I" } : Jvm.MethodName))) ∈ gTb := gTb_in 558 (by decide +kernel) rfl
theorem wd559 : ((Jvm.Cond.selects "DataSetsModel" ({ cls := "DataSetsModel", name := "extent", desc := "(III)I" } : Jvm.MethodName) ({ cls := "DataSetsModel", name := "extent", desc := "(III)I" } : Jvm.MethodName))) ∈ gTb := gTb_in 559 (by decide +kernel) rfl
theorem wd560 : ((Jvm.Cond.code ({ cls := "DataSetsModel", name := "extent", desc := "(III)I" } : Jvm.MethodName) prog_9_method_28_code (4 : Nat) (Option.some Jvm.ClassFile.FieldType.int))) ∈ gTb := gTb_in 560 (by decide +kernel) rfl
theorem wd561 : ((Jvm.Cond.methodLink "DataSetsLaw" (88 : Nat) ({ cls := "DataSetsModel", name := "space", desc := "(I)I" } : Jvm.MethodName))) ∈ gTb := gTb_in 561 (by decide +kernel) rfl
theorem wd562 : ((Jvm.Cond.instanceMethod ({ cls := "DataSetsModel", name := "space", desc := "(I)I" } : Jvm.MethodName))) ∈ gTb := gTb_in 562 (by decide +kernel) rfl
theorem wd563 : ((Jvm.Cond.selects "DataSetsModel" ({ cls := "DataSetsModel", name := "space", desc := "(I)I" } : Jvm.MethodName) ({ cls := "DataSetsModel", name := "space", desc := "(I)I" } : Jvm.MethodName))) ∈ gTb := gTb_in 563 (by decide +kernel) rfl
theorem wd564 : ((Jvm.Cond.code ({ cls := "DataSetsModel", name := "space", desc := "(I)I" } : Jvm.MethodName) prog_9_method_29_code (9 : Nat) (Option.some Jvm.ClassFile.FieldType.int))) ∈ gTb := gTb_in 564 (by decide +kernel) rfl
theorem wd565 : ((Jvm.Cond.constantLong "DataSetsLaw" (44 : Nat) (4294967295 : Int64))) ∈ gTb := gTb_in 565 (by decide +kernel) rfl
