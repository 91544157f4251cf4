theorem u_0 : Cond.initialized "PromiseDeskLaw" ∈ Tw := Tw_1 (List.mem_of_getElem? (i := 0) rfl) rfl
theorem u_1 : Cond.initialized "PromiseDesk" ∈ Tw := Tw_1 (List.mem_of_getElem? (i := 1) rfl) rfl
theorem u_2 : Cond.initialized "java/util/AbstractCollection" ∈ Tw := Tw_1 (List.mem_of_getElem? (i := 2) rfl) rfl
theorem u_3 : Cond.initialized "java/util/AbstractList" ∈ Tw := Tw_1 (List.mem_of_getElem? (i := 3) rfl) rfl
theorem u_4 : Cond.initialized "java/util/ArrayList" ∈ Tw := Tw_1 (List.mem_of_getElem? (i := 4) rfl) rfl
theorem u_5 : Cond.initialized "PromiseDeskModel" ∈ Tw := Tw_1 (List.mem_of_getElem? (i := 5) rfl) rfl
theorem u_6 : Cond.initialized "java/lang/Throwable" ∈ Tw := Tw_1 (List.mem_of_getElem? (i := 6) rfl) rfl
theorem u_7 : Cond.initialized "java/lang/Exception" ∈ Tw := Tw_1 (List.mem_of_getElem? (i := 7) rfl) rfl
theorem u_8 : Cond.initialized "java/lang/RuntimeException" ∈ Tw := Tw_1 (List.mem_of_getElem? (i := 8) rfl) rfl
theorem u_9 : Cond.initialized "java/lang/IllegalStateException" ∈ Tw := Tw_1 (List.mem_of_getElem? (i := 9) rfl) rfl
theorem u_10 : Cond.initialized "PromiseDesk$Thing" ∈ Tw := Tw_1 (List.mem_of_getElem? (i := 10) rfl) rfl
theorem u_11 : Cond.initialized "PromiseDesk$Promise" ∈ Tw := Tw_1 (List.mem_of_getElem? (i := 11) rfl) rfl
theorem u_12 : Cond.initialized "jdk/internal/util/ArraysSupport" ∈ Tw := Tw_1 (List.mem_of_getElem? (i := 12) rfl) rfl
theorem u_13 : Cond.initialized "java/lang/Math" ∈ Tw := Tw_1 (List.mem_of_getElem? (i := 13) rfl) rfl
theorem u_14 : Cond.initialized "java/util/Arrays" ∈ Tw := Tw_1 (List.mem_of_getElem? (i := 14) rfl) rfl
theorem u_15 : Cond.initialized "java/lang/System" ∈ Tw := Tw_1 (List.mem_of_getElem? (i := 15) rfl) rfl
theorem u_16 : Cond.initialized "PromiseDesk$Resolvers" ∈ Tw := Tw_1 (List.mem_of_getElem? (i := 16) rfl) rfl
theorem u_17 : Cond.initialized "java/lang/IllegalArgumentException" ∈ Tw := Tw_1 (List.mem_of_getElem? (i := 17) rfl) rfl
theorem u_18 : Cond.initialized "java/util/Objects" ∈ Tw := Tw_1 (List.mem_of_getElem? (i := 18) rfl) rfl
theorem u_19 : Cond.initialized "jdk/internal/util/Preconditions" ∈ Tw := Tw_1 (List.mem_of_getElem? (i := 19) rfl) rfl
theorem u_20 : Cond.initialized "PromiseDesk$Function" ∈ Tw := Tw_1 (List.mem_of_getElem? (i := 20) rfl) rfl
theorem u_21 : Cond.initialized "PromiseDesk$Simple" ∈ Tw := Tw_1 (List.mem_of_getElem? (i := 21) rfl) rfl
theorem u_22 : Cond.initialized "PromiseDesk$Thenable" ∈ Tw := Tw_1 (List.mem_of_getElem? (i := 22) rfl) rfl
theorem u_23 : Cond.initialized "PromiseDesk$Job" ∈ Tw := Tw_1 (List.mem_of_getElem? (i := 23) rfl) rfl
theorem u_24 : Cond.initialized "PromiseDesk$Lastly" ∈ Tw := Tw_1 (List.mem_of_getElem? (i := 24) rfl) rfl
theorem u_25 : Cond.initialized "PromiseDesk$Combination" ∈ Tw := Tw_1 (List.mem_of_getElem? (i := 25) rfl) rfl
theorem u_26 : Cond.initialized "PromiseDesk$Element" ∈ Tw := Tw_1 (List.mem_of_getElem? (i := 26) rfl) rfl
theorem u_27 : Cond.initialized "PromiseDesk$AsyncRun" ∈ Tw := Tw_1 (List.mem_of_getElem? (i := 27) rfl) rfl
theorem u_28 : Cond.classLink "PromiseDeskLaw" 8 "PromiseDesk" ∈ Tw := Tw_1 (List.mem_of_getElem? (i := 28) rfl) rfl
theorem u_29 : Cond.instantiable "PromiseDesk" 10 ∈ Tw := Tw_1 (List.mem_of_getElem? (i := 29) rfl) rfl
theorem u_30 : Cond.methodLink "PromiseDeskLaw" 74 yX11_init ∈ Tw := Tw_1 (List.mem_of_getElem? (i := 30) rfl) rfl
theorem u_31 : Cond.instanceMethod yX11_init ∈ Tw := Tw_1 (List.mem_of_getElem? (i := 31) rfl) rfl
theorem u_32 : Cond.code yX11_init prog_1_method_1_code 1 (Option.none : Option FieldType) ∈ Tw := Tw_1 (List.mem_of_getElem? (i := 32) rfl) rfl
theorem u_33 : Cond.methodLink "PromiseDesk" 1 ⟨"java/lang/Object", "<init>", "()V"⟩ ∈ Tw := Tw_1 (List.mem_of_getElem? (i := 33) rfl) rfl
theorem u_34 : Cond.instanceMethod ⟨"java/lang/Object", "<init>", "()V"⟩ ∈ Tw := Tw_1 (List.mem_of_getElem? (i := 34) rfl) rfl
theorem u_35 : Cond.code ⟨"java/lang/Object", "<init>", "()V"⟩ object_method_1_code 1 (Option.none : Option FieldType) ∈ Tw := Tw_1 (List.mem_of_getElem? (i := 35) rfl) rfl
theorem u_36 : Cond.classLink "PromiseDesk" 7 "java/util/ArrayList" ∈ Tw := Tw_1 (List.mem_of_getElem? (i := 36) rfl) rfl
theorem u_37 : Cond.instantiable "java/util/ArrayList" 3 ∈ Tw := Tw_1 (List.mem_of_getElem? (i := 37) rfl) rfl
theorem u_38 : Cond.methodLink "PromiseDesk" 9 yJx4a65c_init_da8c8 ∈ Tw := Tw_1 (List.mem_of_getElem? (i := 38) rfl) rfl
theorem u_39 : Cond.instanceMethod yJx4a65c_init_da8c8 ∈ Tw := Tw_1 (List.mem_of_getElem? (i := 39) rfl) rfl
theorem u_40 : Cond.code yJx4a65c_init_da8c8 prog_28_method_2_code 1 (Option.none : Option FieldType) ∈ Tw := Tw_1 (List.mem_of_getElem? (i := 40) rfl) rfl
theorem u_41 : Cond.methodLink "java/util/ArrayList" 1 yJxc12de_init_da8c8 ∈ Tw := Tw_1 (List.mem_of_getElem? (i := 41) rfl) rfl
theorem u_42 : Cond.instanceMethod yJxc12de_init_da8c8 ∈ Tw := Tw_1 (List.mem_of_getElem? (i := 42) rfl) rfl
theorem u_43 : Cond.code yJxc12de_init_da8c8 prog_27_method_1_code 1 (Option.none : Option FieldType) ∈ Tw := Tw_1 (List.mem_of_getElem? (i := 43) rfl) rfl
theorem u_44 : Cond.methodLink "java/util/AbstractList" 1 yJxa1e45_init_da8c8 ∈ Tw := Tw_1 (List.mem_of_getElem? (i := 44) rfl) rfl
theorem u_45 : Cond.instanceMethod yJxa1e45_init_da8c8 ∈ Tw := Tw_1 (List.mem_of_getElem? (i := 45) rfl) rfl
theorem u_46 : Cond.code yJxa1e45_init_da8c8 prog_26_method_1_code 1 (Option.none : Option FieldType) ∈ Tw := Tw_1 (List.mem_of_getElem? (i := 46) rfl) rfl
theorem u_47 : Cond.methodLink "java/util/AbstractCollection" 1 ⟨"java/lang/Object", "<init>", "()V"⟩ ∈ Tw := Tw_1 (List.mem_of_getElem? (i := 47) rfl) rfl
theorem u_48 : Cond.fieldLink "java/util/ArrayList" 39 "java/util/ArrayList" "DEFAULTCAPACITY_EMPTY_ELEMENTDATA" "[Ljava/lang/Object;" ∈ Tw := Tw_1 (List.mem_of_getElem? (i := 48) rfl) rfl
theorem u_50 : Cond.fieldLink "java/util/ArrayList" 9 "java/util/ArrayList" "elementData" "[Ljava/lang/Object;" ∈ Tw := Tw_1 (List.mem_of_getElem? (i := 50) rfl) rfl
theorem u_51 : Cond.fieldLink "java/util/ArrayList" 48 "java/util/ArrayList" "size" "I" ∈ Tw := Tw_1 (List.mem_of_getElem? (i := 51) rfl) rfl
theorem u_52 : Cond.fieldLink "java/util/AbstractList" 7 "java/util/AbstractList" "modCount" "I" ∈ Tw := Tw_1 (List.mem_of_getElem? (i := 52) rfl) rfl
theorem u_53 : Cond.fieldLink "java/util/ArrayList" 63 "java/util/ArrayList" "modCount" "I" ∈ Tw := Tw_1 (List.mem_of_getElem? (i := 53) rfl) rfl
theorem u_54 : Cond.sameField "java/util/ArrayList" "java/util/AbstractList" "modCount" "I" ∈ Tw := Tw_1 (List.mem_of_getElem? (i := 54) rfl) rfl
theorem u_55 : Cond.lays "java/util/ArrayList" "java/util/ArrayList" "elementData" "[Ljava/lang/Object;" ∈ Tw := Tw_1 (List.mem_of_getElem? (i := 55) rfl) rfl
theorem u_56 : Cond.soleField "java/util/ArrayList" "elementData" ∈ Tw := Tw_1 (List.mem_of_getElem? (i := 56) rfl) rfl
theorem u_57 : Cond.lays "java/util/ArrayList" "java/util/ArrayList" "size" "I" ∈ Tw := Tw_1 (List.mem_of_getElem? (i := 57) rfl) rfl
theorem u_58 : Cond.soleField "java/util/ArrayList" "size" ∈ Tw := Tw_1 (List.mem_of_getElem? (i := 58) rfl) rfl
theorem u_59 : Cond.lays "java/util/ArrayList" "java/util/AbstractList" "modCount" "I" ∈ Tw := Tw_1 (List.mem_of_getElem? (i := 59) rfl) rfl
theorem u_60 : Cond.soleField "java/util/AbstractList" "modCount" ∈ Tw := Tw_1 (List.mem_of_getElem? (i := 60) rfl) rfl
theorem u_61 : Cond.superclass "java/util/ArrayList" "java/util/AbstractList" ∈ Tw := Tw_1 (List.mem_of_getElem? (i := 61) rfl) rfl
theorem u_62 : Cond.fieldLink "PromiseDesk" 10 "PromiseDesk" "things" "Ljava/util/ArrayList;" ∈ Tw := Tw_1 (List.mem_of_getElem? (i := 62) rfl) rfl
theorem u_63 : Cond.fieldLink "PromiseDesk" 16 "PromiseDesk" "handlers" "Ljava/util/ArrayList;" ∈ Tw := Tw_1 (List.mem_of_getElem? (i := 63) rfl) rfl
theorem u_64 : Cond.fieldLink "PromiseDesk" 19 "PromiseDesk" "items" "[I" ∈ Tw := Tw_1 (List.mem_of_getElem? (i := 64) rfl) rfl
theorem u_65 : Cond.fieldLink "PromiseDesk" 135 "PromiseDesk" "itemCount" "I" ∈ Tw := Tw_1 (List.mem_of_getElem? (i := 65) rfl) rfl
theorem u_66 : Cond.fieldLink "PromiseDesk" 23 "PromiseDesk" "pairs" "[I" ∈ Tw := Tw_1 (List.mem_of_getElem? (i := 66) rfl) rfl
theorem u_67 : Cond.fieldLink "PromiseDesk" 206 "PromiseDesk" "pairCount" "I" ∈ Tw := Tw_1 (List.mem_of_getElem? (i := 67) rfl) rfl
theorem u_68 : Cond.fieldLink "PromiseDesk" 169 "PromiseDesk" "firstJob" "LPromiseDesk$Job;" ∈ Tw := Tw_1 (List.mem_of_getElem? (i := 68) rfl) rfl
theorem u_69 : Cond.fieldLink "PromiseDesk" 261 "PromiseDesk" "lastJob" "LPromiseDesk$Job;" ∈ Tw := Tw_1 (List.mem_of_getElem? (i := 69) rfl) rfl
theorem u_70 : Cond.fieldLink "PromiseDesk" 210 "PromiseDesk" "jobCount" "I" ∈ Tw := Tw_1 (List.mem_of_getElem? (i := 70) rfl) rfl
theorem u_74 : Cond.fieldLink "PromiseDesk" 351 "PromiseDesk" "threw" "Z" ∈ Tw := Tw_1 (List.mem_of_getElem? (i := 74) rfl) rfl
theorem u_75 : Cond.laysFinal "PromiseDesk" "PromiseDesk" "things" "Ljava/util/ArrayList;" ∈ Tw := Tw_1 (List.mem_of_getElem? (i := 75) rfl) rfl
theorem u_76 : Cond.soleField "PromiseDesk" "things" ∈ Tw := Tw_1 (List.mem_of_getElem? (i := 76) rfl) rfl
theorem u_77 : Cond.laysFinal "PromiseDesk" "PromiseDesk" "handlers" "Ljava/util/ArrayList;" ∈ Tw := Tw_1 (List.mem_of_getElem? (i := 77) rfl) rfl
theorem u_78 : Cond.soleField "PromiseDesk" "handlers" ∈ Tw := Tw_1 (List.mem_of_getElem? (i := 78) rfl) rfl
theorem u_79 : Cond.laysFinal "PromiseDesk" "PromiseDesk" "items" "[I" ∈ Tw := Tw_1 (List.mem_of_getElem? (i := 79) rfl) rfl
theorem u_80 : Cond.soleField "PromiseDesk" "items" ∈ Tw := Tw_1 (List.mem_of_getElem? (i := 80) rfl) rfl
theorem u_81 : Cond.lays "PromiseDesk" "PromiseDesk" "itemCount" "I" ∈ Tw := Tw_1 (List.mem_of_getElem? (i := 81) rfl) rfl
theorem u_82 : Cond.soleField "PromiseDesk" "itemCount" ∈ Tw := Tw_1 (List.mem_of_getElem? (i := 82) rfl) rfl
theorem u_83 : Cond.lays "PromiseDesk" "PromiseDesk" "pairs" "[I" ∈ Tw := Tw_1 (List.mem_of_getElem? (i := 83) rfl) rfl
theorem u_84 : Cond.soleField "PromiseDesk" "pairs" ∈ Tw := Tw_1 (List.mem_of_getElem? (i := 84) rfl) rfl
theorem u_85 : Cond.lays "PromiseDesk" "PromiseDesk" "pairCount" "I" ∈ Tw := Tw_1 (List.mem_of_getElem? (i := 85) rfl) rfl
theorem u_86 : Cond.soleField "PromiseDesk" "pairCount" ∈ Tw := Tw_1 (List.mem_of_getElem? (i := 86) rfl) rfl
theorem u_87 : Cond.lays "PromiseDesk" "PromiseDesk" "firstJob" "LPromiseDesk$Job;" ∈ Tw := Tw_1 (List.mem_of_getElem? (i := 87) rfl) rfl
theorem u_88 : Cond.soleField "PromiseDesk" "firstJob" ∈ Tw := Tw_1 (List.mem_of_getElem? (i := 88) rfl) rfl
theorem u_89 : Cond.lays "PromiseDesk" "PromiseDesk" "lastJob" "LPromiseDesk$Job;" ∈ Tw := Tw_1 (List.mem_of_getElem? (i := 89) rfl) rfl
theorem u_90 : Cond.soleField "PromiseDesk" "lastJob" ∈ Tw := Tw_1 (List.mem_of_getElem? (i := 90) rfl) rfl
theorem u_91 : Cond.lays "PromiseDesk" "PromiseDesk" "jobCount" "I" ∈ Tw := Tw_1 (List.mem_of_getElem? (i := 91) rfl) rfl
theorem u_92 : Cond.soleField "PromiseDesk" "jobCount" ∈ Tw := Tw_1 (List.mem_of_getElem? (i := 92) rfl) rfl
theorem u_93 : Cond.lays "PromiseDesk" "PromiseDesk" "threw" "Z" ∈ Tw := Tw_1 (List.mem_of_getElem? (i := 93) rfl) rfl
theorem u_94 : Cond.soleField "PromiseDesk" "threw" ∈ Tw := Tw_1 (List.mem_of_getElem? (i := 94) rfl) rfl
theorem u_95 : Cond.superclass "PromiseDesk" "java/lang/Object" ∈ Tw := Tw_1 (List.mem_of_getElem? (i := 95) rfl) rfl
theorem u_96 : Cond.arrayClass FieldType.int ∈ Tw := Tw_1 (List.mem_of_getElem? (i := 96) rfl) rfl
theorem u_97 : Cond.methodLink "PromiseDeskLaw" 140 yX11_log ∈ Tw := Tw_1 (List.mem_of_getElem? (i := 97) rfl) rfl
theorem u_98 : Cond.instanceMethod yX11_log ∈ Tw := Tw_1 (List.mem_of_getElem? (i := 98) rfl) rfl
theorem u_99 : Cond.selects "PromiseDesk" yX11_log yX11_log ∈ Tw := Tw_1 (List.mem_of_getElem? (i := 99) rfl) rfl
theorem u_100 : Cond.code yX11_log prog_1_method_19_code 3 (Option.some FieldType.int) ∈ Tw := Tw_1 (List.mem_of_getElem? (i := 100) rfl) rfl
theorem u_101 : Cond.constant "PromiseDesk" 209 (-1000000) ∈ Tw := Tw_1 (List.mem_of_getElem? (i := 101) rfl) rfl
theorem u_102 : Cond.methodLink "PromiseDeskLaw" 78 yL_promise ∈ Tw := Tw_1 (List.mem_of_getElem? (i := 102) rfl) rfl
theorem u_103 : Cond.static yL_promise ∈ Tw := Tw_1 (List.mem_of_getElem? (i := 103) rfl) rfl
theorem u_104 : Cond.codeWith yL_promise method_3_code 3 (Option.some FieldType.int) [(0, 8, 11, 13)] ∈ Tw := Tw_1 (List.mem_of_getElem? (i := 104) rfl) rfl
theorem u_105 : Cond.classLink "PromiseDeskLaw" 13 "java/lang/IllegalStateException" ∈ Tw := Tw_1 (List.mem_of_getElem? (i := 105) rfl) rfl
theorem u_106 : Cond.methodLink "PromiseDeskLaw" 7 yX11_promise ∈ Tw := Tw_1 (List.mem_of_getElem? (i := 106) rfl) rfl
theorem u_107 : Cond.instanceMethod yX11_promise ∈ Tw := Tw_1 (List.mem_of_getElem? (i := 107) rfl) rfl
theorem u_108 : Cond.selects "PromiseDesk" yX11_promise yX11_promise ∈ Tw := Tw_1 (List.mem_of_getElem? (i := 108) rfl) rfl
theorem u_109 : Cond.code yX11_promise prog_1_method_2_code 2 (Option.some FieldType.int) ∈ Tw := Tw_1 (List.mem_of_getElem? (i := 109) rfl) rfl
theorem u_110 : Cond.methodLink "PromiseDesk" 26 yX11_requireRoom ∈ Tw := Tw_1 (List.mem_of_getElem? (i := 110) rfl) rfl
theorem u_112 : Cond.instanceMethod yX11_requireRoom ∈ Tw := Tw_1 (List.mem_of_getElem? (i := 112) rfl) rfl
theorem u_113 : Cond.code yX11_requireRoom prog_1_method_29_code 2 (Option.none : Option FieldType) ∈ Tw := Tw_1 (List.mem_of_getElem? (i := 113) rfl) rfl
theorem u_114 : Cond.methodLink "PromiseDesk" 61 yJx4a65c_size_8abf5 ∈ Tw := Tw_1 (List.mem_of_getElem? (i := 114) rfl) rfl
theorem u_115 : Cond.instanceMethod yJx4a65c_size_8abf5 ∈ Tw := Tw_1 (List.mem_of_getElem? (i := 115) rfl) rfl
theorem u_116 : Cond.selects "java/util/ArrayList" yJx4a65c_size_8abf5 yJx4a65c_size_8abf5 ∈ Tw := Tw_1 (List.mem_of_getElem? (i := 116) rfl) rfl
theorem u_117 : Cond.code yJx4a65c_size_8abf5 prog_28_method_8_code 1 (Option.some FieldType.int) ∈ Tw := Tw_1 (List.mem_of_getElem? (i := 117) rfl) rfl
theorem u_118 : Cond.classLink "PromiseDesk" 65 "java/lang/IllegalStateException" ∈ Tw := Tw_1 (List.mem_of_getElem? (i := 118) rfl) rfl
theorem u_119 : Cond.instantiable "java/lang/IllegalStateException" 6 ∈ Tw := Tw_1 (List.mem_of_getElem? (i := 119) rfl) rfl
theorem u_127 : Cond.selects "java/lang/IllegalStateException" ⟨"java/lang/Throwable", "fillInStackTrace", "(I)Ljava/lang/Throwable;"⟩ ⟨"java/lang/Throwable", "fillInStackTrace", "(I)Ljava/lang/Throwable;"⟩ ∈ Tw := Tw_1 (List.mem_of_getElem? (i := 127) rfl) rfl
theorem u_128 : Cond.selects "java/lang/IllegalStateException" ⟨"java/lang/Throwable", "fillInStackTrace", "()Ljava/lang/Throwable;"⟩ ⟨"java/lang/Throwable", "fillInStackTrace", "()Ljava/lang/Throwable;"⟩ ∈ Tw := Tw_1 (List.mem_of_getElem? (i := 128) rfl) rfl
theorem u_129 : Cond.lays "java/lang/IllegalStateException" "java/lang/Throwable" "cause" "Ljava/lang/Throwable;" ∈ Tw := Tw_1 (List.mem_of_getElem? (i := 129) rfl) rfl
theorem u_130 : Cond.lays "java/lang/Throwable" "java/lang/Throwable" "cause" "Ljava/lang/Throwable;" ∈ Tw := Tw_1 (List.mem_of_getElem? (i := 130) rfl) rfl
theorem u_131 : Cond.lays "java/lang/IllegalStateException" "java/lang/Throwable" "stackTrace" "[Ljava/lang/StackTraceElement;" ∈ Tw := Tw_1 (List.mem_of_getElem? (i := 131) rfl) rfl
theorem u_132 : Cond.lays "java/lang/Throwable" "java/lang/Throwable" "stackTrace" "[Ljava/lang/StackTraceElement;" ∈ Tw := Tw_1 (List.mem_of_getElem? (i := 132) rfl) rfl
theorem u_133 : Cond.lays "java/lang/IllegalStateException" "java/lang/Throwable" "suppressedExceptions" "Ljava/util/List;" ∈ Tw := Tw_1 (List.mem_of_getElem? (i := 133) rfl) rfl
theorem u_134 : Cond.lays "java/lang/Throwable" "java/lang/Throwable" "suppressedExceptions" "Ljava/util/List;" ∈ Tw := Tw_1 (List.mem_of_getElem? (i := 134) rfl) rfl
theorem u_135 : Cond.lays "java/lang/IllegalStateException" "java/lang/Throwable" "detailMessage" "Ljava/lang/String;" ∈ Tw := Tw_1 (List.mem_of_getElem? (i := 135) rfl) rfl
theorem u_136 : Cond.lays "java/lang/Throwable" "java/lang/Throwable" "detailMessage" "Ljava/lang/String;" ∈ Tw := Tw_1 (List.mem_of_getElem? (i := 136) rfl) rfl
theorem u_137 : Cond.lays "java/lang/IllegalStateException" "java/lang/Throwable" "backtrace" "Ljava/lang/Object;" ∈ Tw := Tw_1 (List.mem_of_getElem? (i := 137) rfl) rfl
theorem u_138 : Cond.lays "java/lang/Throwable" "java/lang/Throwable" "backtrace" "Ljava/lang/Object;" ∈ Tw := Tw_1 (List.mem_of_getElem? (i := 138) rfl) rfl
theorem u_139 : Cond.fieldLink "java/lang/Throwable" 198 "java/lang/Throwable" "backtrace" "Ljava/lang/Object;" ∈ Tw := Tw_1 (List.mem_of_getElem? (i := 139) rfl) rfl
theorem u_140 : Cond.superclass "java/lang/Throwable" "java/lang/Object" ∈ Tw := Tw_1 (List.mem_of_getElem? (i := 140) rfl) rfl
theorem u_141 : Cond.instanceMethod ⟨"java/lang/Throwable", "<init>", "()V"⟩ ∈ Tw := Tw_1 (List.mem_of_getElem? (i := 141) rfl) rfl
theorem u_142 : Cond.code ⟨"java/lang/Throwable", "<init>", "()V"⟩ prog_25_method_1_code 1 (Option.none : Option FieldType) ∈ Tw := Tw_1 (List.mem_of_getElem? (i := 142) rfl) rfl
theorem u_143 : Cond.methodLink "java/lang/Throwable" 1 ⟨"java/lang/Object", "<init>", "()V"⟩ ∈ Tw := Tw_1 (List.mem_of_getElem? (i := 143) rfl) rfl
theorem u_144 : Cond.fieldLink "java/lang/Throwable" 13 "java/lang/Throwable" "UNASSIGNED_STACK" "[Ljava/lang/StackTraceElement;" ∈ Tw := Tw_1 (List.mem_of_getElem? (i := 144) rfl) rfl
theorem u_146 : Cond.fieldLink "java/lang/Throwable" 20 "java/lang/Throwable" "SUPPRESSED_SENTINEL" "Ljava/util/List;" ∈ Tw := Tw_1 (List.mem_of_getElem? (i := 146) rfl) rfl
theorem u_148 : Cond.methodLink "java/lang/Throwable" 27 ⟨"java/lang/Throwable", "fillInStackTrace", "()Ljava/lang/Throwable;"⟩ ∈ Tw := Tw_1 (List.mem_of_getElem? (i := 148) rfl) rfl
theorem u_149 : Cond.instanceMethod ⟨"java/lang/Throwable", "fillInStackTrace", "()Ljava/lang/Throwable;"⟩ ∈ Tw := Tw_1 (List.mem_of_getElem? (i := 149) rfl) rfl
theorem u_150 : Cond.sameMethod "java/lang/Throwable" "java/lang/Throwable" "fillInStackTrace" "()Ljava/lang/Throwable;" ∈ Tw := Tw_1 (List.mem_of_getElem? (i := 150) rfl) rfl
theorem u_151 : Cond.selects "java/lang/IllegalArgumentException" ⟨"java/lang/Throwable", "fillInStackTrace", "()Ljava/lang/Throwable;"⟩ ⟨"java/lang/Throwable", "fillInStackTrace", "()Ljava/lang/Throwable;"⟩ ∈ Tw := Tw_1 (List.mem_of_getElem? (i := 151) rfl) rfl
theorem u_152 : Cond.codeSync ⟨"java/lang/Throwable", "fillInStackTrace", "()Ljava/lang/Throwable;"⟩ prog_25_method_18_code 1 (Option.some (FieldType.object "java/lang/Throwable")) ∈ Tw := Tw_1 (List.mem_of_getElem? (i := 152) rfl) rfl
theorem u_153 : Cond.methodLink "java/lang/Throwable" 202 ⟨"java/lang/Throwable", "fillInStackTrace", "(I)Ljava/lang/Throwable;"⟩ ∈ Tw := Tw_1 (List.mem_of_getElem? (i := 153) rfl) rfl
theorem u_155 : Cond.instanceMethod ⟨"java/lang/Throwable", "fillInStackTrace", "(I)Ljava/lang/Throwable;"⟩ ∈ Tw := Tw_1 (List.mem_of_getElem? (i := 155) rfl) rfl
theorem u_156 : Cond.instantiable "java/lang/Throwable" 6 ∈ Tw := Tw_1 (List.mem_of_getElem? (i := 156) rfl) rfl
theorem u_157 : Cond.native ⟨"java/lang/Throwable", "fillInStackTrace", "(I)Ljava/lang/Throwable;"⟩ ∈ Tw := Tw_1 (List.mem_of_getElem? (i := 157) rfl) rfl
theorem u_159 : Cond.methodLink "PromiseDesk" 69 ⟨"java/lang/IllegalStateException", "<init>", "(Ljava/lang/String;)V"⟩ ∈ Tw := Tw_1 (List.mem_of_getElem? (i := 159) rfl) rfl
theorem u_160 : Cond.instanceMethod ⟨"java/lang/IllegalStateException", "<init>", "(Ljava/lang/String;)V"⟩ ∈ Tw := Tw_1 (List.mem_of_getElem? (i := 160) rfl) rfl
theorem u_161 : Cond.code ⟨"java/lang/IllegalStateException", "<init>", "(Ljava/lang/String;)V"⟩ prog_19_method_2_code 2 (Option.none : Option FieldType) ∈ Tw := Tw_1 (List.mem_of_getElem? (i := 161) rfl) rfl
theorem u_162 : Cond.methodLink "java/lang/IllegalStateException" 7 ⟨"java/lang/RuntimeException", "<init>", "(Ljava/lang/String;)V"⟩ ∈ Tw := Tw_1 (List.mem_of_getElem? (i := 162) rfl) rfl
theorem u_163 : Cond.instanceMethod ⟨"java/lang/RuntimeException", "<init>", "(Ljava/lang/String;)V"⟩ ∈ Tw := Tw_1 (List.mem_of_getElem? (i := 163) rfl) rfl
theorem u_164 : Cond.code ⟨"java/lang/RuntimeException", "<init>", "(Ljava/lang/String;)V"⟩ prog_22_method_2_code 2 (Option.none : Option FieldType) ∈ Tw := Tw_1 (List.mem_of_getElem? (i := 164) rfl) rfl
theorem u_165 : Cond.methodLink "java/lang/RuntimeException" 7 ⟨"java/lang/Exception", "<init>", "(Ljava/lang/String;)V"⟩ ∈ Tw := Tw_1 (List.mem_of_getElem? (i := 165) rfl) rfl
theorem u_166 : Cond.instanceMethod ⟨"java/lang/Exception", "<init>", "(Ljava/lang/String;)V"⟩ ∈ Tw := Tw_1 (List.mem_of_getElem? (i := 166) rfl) rfl
theorem u_167 : Cond.code ⟨"java/lang/Exception", "<init>", "(Ljava/lang/String;)V"⟩ prog_17_method_2_code 2 (Option.none : Option FieldType) ∈ Tw := Tw_1 (List.mem_of_getElem? (i := 167) rfl) rfl
theorem u_168 : Cond.methodLink "java/lang/Exception" 7 ⟨"java/lang/Throwable", "<init>", "(Ljava/lang/String;)V"⟩ ∈ Tw := Tw_1 (List.mem_of_getElem? (i := 168) rfl) rfl
theorem u_169 : Cond.instanceMethod ⟨"java/lang/Throwable", "<init>", "(Ljava/lang/String;)V"⟩ ∈ Tw := Tw_1 (List.mem_of_getElem? (i := 169) rfl) rfl
theorem u_170 : Cond.code ⟨"java/lang/Throwable", "<init>", "(Ljava/lang/String;)V"⟩ prog_25_method_2_code 2 (Option.none : Option FieldType) ∈ Tw := Tw_1 (List.mem_of_getElem? (i := 170) rfl) rfl
theorem u_171 : Cond.fieldLink "java/lang/Throwable" 198 "java/lang/Throwable" "backtrace" "Ljava/lang/Object;" ∈ Tw := Tw_1 (List.mem_of_getElem? (i := 171) rfl) rfl
theorem u_172 : Cond.fieldLink "java/lang/Throwable" 31 "java/lang/Throwable" "detailMessage" "Ljava/lang/String;" ∈ Tw := Tw_1 (List.mem_of_getElem? (i := 172) rfl) rfl
theorem u_173 : Cond.fieldLink "java/lang/Throwable" 7 "java/lang/Throwable" "cause" "Ljava/lang/Throwable;" ∈ Tw := Tw_1 (List.mem_of_getElem? (i := 173) rfl) rfl
theorem u_174 : Cond.fieldLink "java/lang/Throwable" 17 "java/lang/Throwable" "stackTrace" "[Ljava/lang/StackTraceElement;" ∈ Tw := Tw_1 (List.mem_of_getElem? (i := 174) rfl) rfl
theorem u_175 : Cond.fieldLink "java/lang/Throwable" 24 "java/lang/Throwable" "suppressedExceptions" "Ljava/util/List;" ∈ Tw := Tw_1 (List.mem_of_getElem? (i := 175) rfl) rfl
theorem u_176 : Cond.soleField "java/lang/Throwable" "backtrace" ∈ Tw := Tw_1 (List.mem_of_getElem? (i := 176) rfl) rfl
theorem u_177 : Cond.soleField "java/lang/Throwable" "detailMessage" ∈ Tw := Tw_1 (List.mem_of_getElem? (i := 177) rfl) rfl
theorem u_178 : Cond.soleField "java/lang/Throwable" "cause" ∈ Tw := Tw_1 (List.mem_of_getElem? (i := 178) rfl) rfl
theorem u_179 : Cond.soleField "java/lang/Throwable" "stackTrace" ∈ Tw := Tw_1 (List.mem_of_getElem? (i := 179) rfl) rfl
theorem u_180 : Cond.lays "java/lang/IllegalStateException" "java/lang/Throwable" "depth" "I" ∈ Tw := Tw_1 (List.mem_of_getElem? (i := 180) rfl) rfl
theorem u_181 : Cond.soleField "java/lang/Throwable" "depth" ∈ Tw := Tw_1 (List.mem_of_getElem? (i := 181) rfl) rfl
theorem u_182 : Cond.soleField "java/lang/Throwable" "suppressedExceptions" ∈ Tw := Tw_1 (List.mem_of_getElem? (i := 182) rfl) rfl
theorem u_183 : Cond.superclass "java/lang/IllegalStateException" "java/lang/RuntimeException" ∈ Tw := Tw_1 (List.mem_of_getElem? (i := 183) rfl) rfl
theorem u_184 : Cond.arrayClass FieldType.byte ∈ Tw := Tw_1 (List.mem_of_getElem? (i := 184) rfl) rfl
theorem u_185 : Cond.methodLink "PromiseDesk" 30 yX11_newPromise ∈ Tw := Tw_1 (List.mem_of_getElem? (i := 185) rfl) rfl
theorem u_187 : Cond.instanceMethod yX11_newPromise ∈ Tw := Tw_1 (List.mem_of_getElem? (i := 187) rfl) rfl
theorem u_188 : Cond.code yX11_newPromise prog_1_method_34_code 2 (Option.some (FieldType.object "PromiseDesk$Resolvers")) ∈ Tw := Tw_1 (List.mem_of_getElem? (i := 188) rfl) rfl
theorem u_189 : Cond.classLink "PromiseDesk" 41 "PromiseDesk$Promise" ∈ Tw := Tw_1 (List.mem_of_getElem? (i := 189) rfl) rfl
theorem u_190 : Cond.instantiable "PromiseDesk$Promise" 9 ∈ Tw := Tw_1 (List.mem_of_getElem? (i := 190) rfl) rfl
theorem u_191 : Cond.methodLink "PromiseDesk" 83 yX11_nextValue ∈ Tw := Tw_1 (List.mem_of_getElem? (i := 191) rfl) rfl
theorem u_193 : Cond.instanceMethod yX11_nextValue ∈ Tw := Tw_1 (List.mem_of_getElem? (i := 193) rfl) rfl
theorem u_194 : Cond.code yX11_nextValue prog_1_method_32_code 1 (Option.some FieldType.int) ∈ Tw := Tw_1 (List.mem_of_getElem? (i := 194) rfl) rfl
theorem u_195 : Cond.methodLink "PromiseDesk" 250 yX6_init ∈ Tw := Tw_1 (List.mem_of_getElem? (i := 195) rfl) rfl
theorem u_196 : Cond.instanceMethod yX6_init ∈ Tw := Tw_1 (List.mem_of_getElem? (i := 196) rfl) rfl
theorem u_197 : Cond.code yX6_init prog_8_method_1_code 2 (Option.none : Option FieldType) ∈ Tw := Tw_1 (List.mem_of_getElem? (i := 197) rfl) rfl
theorem u_198 : Cond.methodLink "PromiseDesk$Promise" 3 yX10_init ∈ Tw := Tw_1 (List.mem_of_getElem? (i := 198) rfl) rfl
theorem u_199 : Cond.instanceMethod yX10_init ∈ Tw := Tw_1 (List.mem_of_getElem? (i := 199) rfl) rfl
theorem u_200 : Cond.code yX10_init prog_12_method_1_code 4 (Option.none : Option FieldType) ∈ Tw := Tw_1 (List.mem_of_getElem? (i := 200) rfl) rfl
theorem u_201 : Cond.methodLink "PromiseDesk$Thing" 1 ⟨"java/lang/Object", "<init>", "()V"⟩ ∈ Tw := Tw_1 (List.mem_of_getElem? (i := 201) rfl) rfl
theorem u_202 : Cond.fieldLink "PromiseDesk$Promise" 9 "PromiseDesk$Promise" "state" "I" ∈ Tw := Tw_1 (List.mem_of_getElem? (i := 202) rfl) rfl
theorem u_203 : Cond.fieldLink "PromiseDesk" 187 "PromiseDesk$Promise" "state" "I" ∈ Tw := Tw_1 (List.mem_of_getElem? (i := 203) rfl) rfl
theorem u_204 : Cond.fieldLink "PromiseDesk$Promise" 15 "PromiseDesk$Promise" "result" "I" ∈ Tw := Tw_1 (List.mem_of_getElem? (i := 204) rfl) rfl
theorem u_205 : Cond.fieldLink "PromiseDesk" 190 "PromiseDesk$Promise" "result" "I" ∈ Tw := Tw_1 (List.mem_of_getElem? (i := 205) rfl) rfl
theorem u_206 : Cond.fieldLink "PromiseDesk" 183 "PromiseDesk$Promise" "handled" "Z" ∈ Tw := Tw_1 (List.mem_of_getElem? (i := 206) rfl) rfl
theorem u_207 : Cond.fieldLink "PromiseDesk" 40 "PromiseDesk$Promise" "kept" "LPromiseDesk$Resolvers;" ∈ Tw := Tw_1 (List.mem_of_getElem? (i := 207) rfl) rfl
theorem u_208 : Cond.fieldLink "PromiseDesk" 297 "PromiseDesk$Promise" "firstWaiting" "LPromiseDesk$Job;" ∈ Tw := Tw_1 (List.mem_of_getElem? (i := 208) rfl) rfl
theorem u_209 : Cond.fieldLink "PromiseDesk" 300 "PromiseDesk$Promise" "lastWaiting" "LPromiseDesk$Job;" ∈ Tw := Tw_1 (List.mem_of_getElem? (i := 209) rfl) rfl
theorem u_210 : Cond.fieldLink "PromiseDesk$Thing" 7 "PromiseDesk$Thing" "value" "I" ∈ Tw := Tw_1 (List.mem_of_getElem? (i := 210) rfl) rfl
theorem u_211 : Cond.fieldLink "PromiseDesk" 46 "PromiseDesk$Promise" "value" "I" ∈ Tw := Tw_1 (List.mem_of_getElem? (i := 211) rfl) rfl
theorem u_212 : Cond.sameField "PromiseDesk$Promise" "PromiseDesk$Thing" "value" "I" ∈ Tw := Tw_1 (List.mem_of_getElem? (i := 212) rfl) rfl
theorem u_213 : Cond.fieldLink "PromiseDesk" 101 "PromiseDesk$Thenable" "value" "I" ∈ Tw := Tw_1 (List.mem_of_getElem? (i := 213) rfl) rfl
theorem u_214 : Cond.sameField "PromiseDesk$Thenable" "PromiseDesk$Thing" "value" "I" ∈ Tw := Tw_1 (List.mem_of_getElem? (i := 214) rfl) rfl
theorem u_215 : Cond.fieldLink "PromiseDesk" 249 "PromiseDesk$Thing" "value" "I" ∈ Tw := Tw_1 (List.mem_of_getElem? (i := 215) rfl) rfl
theorem u_216 : Cond.fieldLink "PromiseDesk$Thing" 13 "PromiseDesk$Thing" "kind" "I" ∈ Tw := Tw_1 (List.mem_of_getElem? (i := 216) rfl) rfl
theorem u_217 : Cond.fieldLink "PromiseDesk" 197 "PromiseDesk$Thing" "kind" "I" ∈ Tw := Tw_1 (List.mem_of_getElem? (i := 217) rfl) rfl
theorem u_218 : Cond.fieldLink "PromiseDesk$Thing" 16 "PromiseDesk$Thing" "parts" "[I" ∈ Tw := Tw_1 (List.mem_of_getElem? (i := 218) rfl) rfl
theorem u_219 : Cond.fieldLink "PromiseDesk" 237 "PromiseDesk$Thing" "parts" "[I" ∈ Tw := Tw_1 (List.mem_of_getElem? (i := 219) rfl) rfl
theorem u_220 : Cond.lays "PromiseDesk$Promise" "PromiseDesk$Promise" "state" "I" ∈ Tw := Tw_1 (List.mem_of_getElem? (i := 220) rfl) rfl
theorem u_221 : Cond.soleField "PromiseDesk$Promise" "state" ∈ Tw := Tw_1 (List.mem_of_getElem? (i := 221) rfl) rfl
theorem u_222 : Cond.lays "PromiseDesk$Promise" "PromiseDesk$Promise" "result" "I" ∈ Tw := Tw_1 (List.mem_of_getElem? (i := 222) rfl) rfl
theorem u_223 : Cond.soleField "PromiseDesk$Promise" "result" ∈ Tw := Tw_1 (List.mem_of_getElem? (i := 223) rfl) rfl
theorem u_224 : Cond.lays "PromiseDesk$Promise" "PromiseDesk$Promise" "handled" "Z" ∈ Tw := Tw_1 (List.mem_of_getElem? (i := 224) rfl) rfl
theorem u_225 : Cond.soleField "PromiseDesk$Promise" "handled" ∈ Tw := Tw_1 (List.mem_of_getElem? (i := 225) rfl) rfl
theorem u_226 : Cond.lays "PromiseDesk$Promise" "PromiseDesk$Promise" "kept" "LPromiseDesk$Resolvers;" ∈ Tw := Tw_1 (List.mem_of_getElem? (i := 226) rfl) rfl
theorem u_227 : Cond.soleField "PromiseDesk$Promise" "kept" ∈ Tw := Tw_1 (List.mem_of_getElem? (i := 227) rfl) rfl
theorem u_228 : Cond.lays "PromiseDesk$Promise" "PromiseDesk$Promise" "firstWaiting" "LPromiseDesk$Job;" ∈ Tw := Tw_1 (List.mem_of_getElem? (i := 228) rfl) rfl
theorem u_229 : Cond.soleField "PromiseDesk$Promise" "firstWaiting" ∈ Tw := Tw_1 (List.mem_of_getElem? (i := 229) rfl) rfl
theorem u_230 : Cond.lays "PromiseDesk$Promise" "PromiseDesk$Promise" "lastWaiting" "LPromiseDesk$Job;" ∈ Tw := Tw_1 (List.mem_of_getElem? (i := 230) rfl) rfl
theorem u_231 : Cond.soleField "PromiseDesk$Promise" "lastWaiting" ∈ Tw := Tw_1 (List.mem_of_getElem? (i := 231) rfl) rfl
theorem u_232 : Cond.laysFinal "PromiseDesk$Promise" "PromiseDesk$Thing" "value" "I" ∈ Tw := Tw_1 (List.mem_of_getElem? (i := 232) rfl) rfl
theorem u_233 : Cond.soleField "PromiseDesk$Thing" "value" ∈ Tw := Tw_1 (List.mem_of_getElem? (i := 233) rfl) rfl
theorem u_234 : Cond.laysFinal "PromiseDesk$Promise" "PromiseDesk$Thing" "kind" "I" ∈ Tw := Tw_1 (List.mem_of_getElem? (i := 234) rfl) rfl
theorem u_235 : Cond.soleField "PromiseDesk$Thing" "kind" ∈ Tw := Tw_1 (List.mem_of_getElem? (i := 235) rfl) rfl
theorem u_236 : Cond.laysFinal "PromiseDesk$Promise" "PromiseDesk$Thing" "parts" "[I" ∈ Tw := Tw_1 (List.mem_of_getElem? (i := 236) rfl) rfl
theorem u_237 : Cond.soleField "PromiseDesk$Thing" "parts" ∈ Tw := Tw_1 (List.mem_of_getElem? (i := 237) rfl) rfl
theorem u_238 : Cond.superclass "PromiseDesk$Promise" "PromiseDesk$Thing" ∈ Tw := Tw_1 (List.mem_of_getElem? (i := 238) rfl) rfl
theorem u_239 : Cond.methodLink "PromiseDesk" 77 yJx4a65c_add_9ea2d ∈ Tw := Tw_1 (List.mem_of_getElem? (i := 239) rfl) rfl
theorem u_240 : Cond.instanceMethod yJx4a65c_add_9ea2d ∈ Tw := Tw_2 (List.mem_of_getElem? (i := 0) rfl) rfl
theorem u_241 : Cond.selects "java/util/ArrayList" yJx4a65c_add_9ea2d yJx4a65c_add_9ea2d ∈ Tw := Tw_2 (List.mem_of_getElem? (i := 1) rfl) rfl
theorem u_242 : Cond.code yJx4a65c_add_9ea2d prog_28_method_25_code 2 (Option.some FieldType.boolean) ∈ Tw := Tw_2 (List.mem_of_getElem? (i := 2) rfl) rfl
theorem u_243 : Cond.methodLink "java/util/ArrayList" 131 yJx4a65c_add_72be8 ∈ Tw := Tw_2 (List.mem_of_getElem? (i := 3) rfl) rfl
theorem u_245 : Cond.instanceMethod yJx4a65c_add_72be8 ∈ Tw := Tw_2 (List.mem_of_getElem? (i := 5) rfl) rfl
theorem u_246 : Cond.code yJx4a65c_add_72be8 prog_28_method_24_code 4 (Option.none : Option FieldType) ∈ Tw := Tw_2 (List.mem_of_getElem? (i := 6) rfl) rfl
theorem u_247 : Cond.methodLink "java/util/ArrayList" 129 yJx4a65c_grow_d5877 ∈ Tw := Tw_2 (List.mem_of_getElem? (i := 7) rfl) rfl
theorem u_249 : Cond.instanceMethod yJx4a65c_grow_d5877 ∈ Tw := Tw_2 (List.mem_of_getElem? (i := 9) rfl) rfl
theorem u_250 : Cond.code yJx4a65c_grow_d5877 prog_28_method_7_code 1 (Option.some (FieldType.array (FieldType.object "java/lang/Object"))) ∈ Tw := Tw_2 (List.mem_of_getElem? (i := 10) rfl) rfl
theorem u_251 : Cond.methodLink "java/util/ArrayList" 69 yJx4a65c_grow_92f84 ∈ Tw := Tw_2 (List.mem_of_getElem? (i := 11) rfl) rfl
theorem u_253 : Cond.instanceMethod yJx4a65c_grow_92f84 ∈ Tw := Tw_2 (List.mem_of_getElem? (i := 13) rfl) rfl
theorem u_254 : Cond.code yJx4a65c_grow_92f84 prog_28_method_6_code 4 (Option.some (FieldType.array (FieldType.object "java/lang/Object"))) ∈ Tw := Tw_2 (List.mem_of_getElem? (i := 14) rfl) rfl
theorem u_255 : Cond.methodLink "java/util/ArrayList" 73 yJ8_newLength_cabcc ∈ Tw := Tw_2 (List.mem_of_getElem? (i := 15) rfl) rfl
theorem u_256 : Cond.static yJ8_newLength_cabcc ∈ Tw := Tw_2 (List.mem_of_getElem? (i := 16) rfl) rfl
theorem u_257 : Cond.code yJ8_newLength_cabcc prog_35_method_27_code 4 (Option.some FieldType.int) ∈ Tw := Tw_2 (List.mem_of_getElem? (i := 17) rfl) rfl
theorem u_258 : Cond.methodLink "jdk/internal/util/ArraysSupport" 194 yJ9_max_7cf53 ∈ Tw := Tw_2 (List.mem_of_getElem? (i := 18) rfl) rfl
theorem u_259 : Cond.static yJ9_max_7cf53 ∈ Tw := Tw_2 (List.mem_of_getElem? (i := 19) rfl) rfl
theorem u_260 : Cond.code yJ9_max_7cf53 prog_21_method_65_code 2 (Option.some FieldType.int) ∈ Tw := Tw_2 (List.mem_of_getElem? (i := 20) rfl) rfl
theorem u_261 : Cond.constant "jdk/internal/util/ArraysSupport" 200 2147483639 ∈ Tw := Tw_2 (List.mem_of_getElem? (i := 21) rfl) rfl
theorem u_262 : Cond.methodLink "jdk/internal/util/ArraysSupport" 201 yJ8_hugeLength_7cf53 ∈ Tw := Tw_2 (List.mem_of_getElem? (i := 22) rfl) rfl
theorem u_263 : Cond.static yJ8_hugeLength_7cf53 ∈ Tw := Tw_2 (List.mem_of_getElem? (i := 23) rfl) rfl
theorem u_264 : Cond.code yJ8_hugeLength_7cf53 prog_35_method_28_code 3 (Option.some FieldType.int) ∈ Tw := Tw_2 (List.mem_of_getElem? (i := 24) rfl) rfl
theorem u_265 : Cond.methodLink "java/util/ArrayList" 66 yJ7_copyOf_1904c ∈ Tw := Tw_2 (List.mem_of_getElem? (i := 25) rfl) rfl
theorem u_266 : Cond.static yJ7_copyOf_1904c ∈ Tw := Tw_2 (List.mem_of_getElem? (i := 26) rfl) rfl
theorem u_267 : Cond.code yJ7_copyOf_1904c prog_29_method_119_code 2 (Option.some (FieldType.array (FieldType.object "java/lang/Object"))) ∈ Tw := Tw_2 (List.mem_of_getElem? (i := 27) rfl) rfl
theorem u_268 : Cond.methodLink "java/util/Arrays" 86 ⟨"java/lang/Object", "getClass", "()Ljava/lang/Class;"⟩ ∈ Tw := Tw_2 (List.mem_of_getElem? (i := 28) rfl) rfl
theorem u_269 : Cond.instanceMethod ⟨"java/lang/Object", "getClass", "()Ljava/lang/Class;"⟩ ∈ Tw := Tw_2 (List.mem_of_getElem? (i := 29) rfl) rfl
theorem u_270 : Cond.sameMethod "java/lang/Object" "java/lang/Object" "getClass" "()Ljava/lang/Class;" ∈ Tw := Tw_2 (List.mem_of_getElem? (i := 30) rfl) rfl
theorem u_271 : Cond.selects "PromiseDesk" ⟨"java/lang/Object", "getClass", "()Ljava/lang/Class;"⟩ ⟨"java/lang/Object", "getClass", "()Ljava/lang/Class;"⟩ ∈ Tw := Tw_2 (List.mem_of_getElem? (i := 31) rfl) rfl
theorem u_272 : Cond.selects "PromiseDesk$AsyncRun" ⟨"java/lang/Object", "getClass", "()Ljava/lang/Class;"⟩ ⟨"java/lang/Object", "getClass", "()Ljava/lang/Class;"⟩ ∈ Tw := Tw_2 (List.mem_of_getElem? (i := 32) rfl) rfl
theorem u_273 : Cond.selects "PromiseDesk$Combination" ⟨"java/lang/Object", "getClass", "()Ljava/lang/Class;"⟩ ⟨"java/lang/Object", "getClass", "()Ljava/lang/Class;"⟩ ∈ Tw := Tw_2 (List.mem_of_getElem? (i := 33) rfl) rfl
theorem u_274 : Cond.selects "PromiseDesk$Element" ⟨"java/lang/Object", "getClass", "()Ljava/lang/Class;"⟩ ⟨"java/lang/Object", "getClass", "()Ljava/lang/Class;"⟩ ∈ Tw := Tw_2 (List.mem_of_getElem? (i := 34) rfl) rfl
theorem u_275 : Cond.selects "PromiseDesk$Job" ⟨"java/lang/Object", "getClass", "()Ljava/lang/Class;"⟩ ⟨"java/lang/Object", "getClass", "()Ljava/lang/Class;"⟩ ∈ Tw := Tw_2 (List.mem_of_getElem? (i := 35) rfl) rfl
theorem u_276 : Cond.selects "PromiseDesk$Lastly" ⟨"java/lang/Object", "getClass", "()Ljava/lang/Class;"⟩ ⟨"java/lang/Object", "getClass", "()Ljava/lang/Class;"⟩ ∈ Tw := Tw_2 (List.mem_of_getElem? (i := 36) rfl) rfl
theorem u_277 : Cond.selects "PromiseDesk$Promise" ⟨"java/lang/Object", "getClass", "()Ljava/lang/Class;"⟩ ⟨"java/lang/Object", "getClass", "()Ljava/lang/Class;"⟩ ∈ Tw := Tw_2 (List.mem_of_getElem? (i := 37) rfl) rfl
theorem u_278 : Cond.selects "PromiseDesk$Resolvers" ⟨"java/lang/Object", "getClass", "()Ljava/lang/Class;"⟩ ⟨"java/lang/Object", "getClass", "()Ljava/lang/Class;"⟩ ∈ Tw := Tw_2 (List.mem_of_getElem? (i := 38) rfl) rfl
theorem u_279 : Cond.selects "PromiseDesk$Simple" ⟨"java/lang/Object", "getClass", "()Ljava/lang/Class;"⟩ ⟨"java/lang/Object", "getClass", "()Ljava/lang/Class;"⟩ ∈ Tw := Tw_2 (List.mem_of_getElem? (i := 39) rfl) rfl
theorem u_280 : Cond.selects "PromiseDesk$Thenable" ⟨"java/lang/Object", "getClass", "()Ljava/lang/Class;"⟩ ⟨"java/lang/Object", "getClass", "()Ljava/lang/Class;"⟩ ∈ Tw := Tw_2 (List.mem_of_getElem? (i := 40) rfl) rfl
theorem u_281 : Cond.selects "PromiseDesk$Thing" ⟨"java/lang/Object", "getClass", "()Ljava/lang/Class;"⟩ ⟨"java/lang/Object", "getClass", "()Ljava/lang/Class;"⟩ ∈ Tw := Tw_2 (List.mem_of_getElem? (i := 41) rfl) rfl
theorem u_282 : Cond.selects "PromiseDeskModel" ⟨"java/lang/Object", "getClass", "()Ljava/lang/Class;"⟩ ⟨"java/lang/Object", "getClass", "()Ljava/lang/Class;"⟩ ∈ Tw := Tw_2 (List.mem_of_getElem? (i := 42) rfl) rfl
theorem u_283 : Cond.selects "java/lang/IllegalArgumentException" ⟨"java/lang/Object", "getClass", "()Ljava/lang/Class;"⟩ ⟨"java/lang/Object", "getClass", "()Ljava/lang/Class;"⟩ ∈ Tw := Tw_2 (List.mem_of_getElem? (i := 43) rfl) rfl
theorem u_284 : Cond.selects "java/lang/IllegalStateException" ⟨"java/lang/Object", "getClass", "()Ljava/lang/Class;"⟩ ⟨"java/lang/Object", "getClass", "()Ljava/lang/Class;"⟩ ∈ Tw := Tw_2 (List.mem_of_getElem? (i := 44) rfl) rfl
theorem u_285 : Cond.selects "java/util/ArrayList" ⟨"java/lang/Object", "getClass", "()Ljava/lang/Class;"⟩ ⟨"java/lang/Object", "getClass", "()Ljava/lang/Class;"⟩ ∈ Tw := Tw_2 (List.mem_of_getElem? (i := 45) rfl) rfl
theorem u_286 : Cond.native ⟨"java/lang/Object", "getClass", "()Ljava/lang/Class;"⟩ ∈ Tw := Tw_2 (List.mem_of_getElem? (i := 46) rfl) rfl
theorem u_287 : Cond.methodLink "java/util/Arrays" 300 yJ7_copyOf_6403c ∈ Tw := Tw_2 (List.mem_of_getElem? (i := 47) rfl) rfl
theorem u_288 : Cond.static yJ7_copyOf_6403c ∈ Tw := Tw_2 (List.mem_of_getElem? (i := 48) rfl) rfl
theorem u_289 : Cond.code yJ7_copyOf_6403c prog_29_method_120_code 4 (Option.some (FieldType.array (FieldType.object "java/lang/Object"))) ∈ Tw := Tw_2 (List.mem_of_getElem? (i := 49) rfl) rfl
theorem u_290 : Cond.classLink "java/util/Arrays" 110 "[Ljava/lang/Object;" ∈ Tw := Tw_2 (List.mem_of_getElem? (i := 50) rfl) rfl
theorem u_292 : Cond.classLink "java/util/Arrays" 2 "java/lang/Object" ∈ Tw := Tw_2 (List.mem_of_getElem? (i := 52) rfl) rfl
theorem u_293 : Cond.methodLink "java/util/Arrays" 304 yJ9_min_7cf53 ∈ Tw := Tw_2 (List.mem_of_getElem? (i := 53) rfl) rfl
theorem u_294 : Cond.static yJ9_min_7cf53 ∈ Tw := Tw_2 (List.mem_of_getElem? (i := 54) rfl) rfl
theorem u_295 : Cond.code yJ9_min_7cf53 prog_21_method_69_code 2 (Option.some FieldType.int) ∈ Tw := Tw_2 (List.mem_of_getElem? (i := 55) rfl) rfl
theorem u_296 : Cond.methodLink "java/util/Arrays" 150 ⟨"java/lang/System", "arraycopy", "(Ljava/lang/Object;ILjava/lang/Object;II)V"⟩ ∈ Tw := Tw_2 (List.mem_of_getElem? (i := 56) rfl) rfl
theorem u_297 : Cond.static ⟨"java/lang/System", "arraycopy", "(Ljava/lang/Object;ILjava/lang/Object;II)V"⟩ ∈ Tw := Tw_2 (List.mem_of_getElem? (i := 57) rfl) rfl
theorem u_298 : Cond.native ⟨"java/lang/System", "arraycopy", "(Ljava/lang/Object;ILjava/lang/Object;II)V"⟩ ∈ Tw := Tw_2 (List.mem_of_getElem? (i := 58) rfl) rfl
theorem u_299 : Cond.methodLink "java/util/ArrayList" 79 yJ9_max_7cf53 ∈ Tw := Tw_2 (List.mem_of_getElem? (i := 59) rfl) rfl
theorem u_300 : Cond.classLink "java/util/ArrayList" 7 "java/lang/Object" ∈ Tw := Tw_2 (List.mem_of_getElem? (i := 60) rfl) rfl
theorem u_301 : Cond.classLink "PromiseDesk" 35 "PromiseDesk$Resolvers" ∈ Tw := Tw_2 (List.mem_of_getElem? (i := 61) rfl) rfl
theorem u_302 : Cond.instantiable "PromiseDesk$Resolvers" 2 ∈ Tw := Tw_2 (List.mem_of_getElem? (i := 62) rfl) rfl
theorem u_303 : Cond.methodLink "PromiseDesk" 252 yX7_init ∈ Tw := Tw_2 (List.mem_of_getElem? (i := 63) rfl) rfl
theorem u_304 : Cond.instanceMethod yX7_init ∈ Tw := Tw_2 (List.mem_of_getElem? (i := 64) rfl) rfl
theorem u_305 : Cond.code yX7_init prog_9_method_1_code 2 (Option.none : Option FieldType) ∈ Tw := Tw_2 (List.mem_of_getElem? (i := 65) rfl) rfl
theorem u_306 : Cond.methodLink "PromiseDesk$Resolvers" 1 ⟨"java/lang/Object", "<init>", "()V"⟩ ∈ Tw := Tw_2 (List.mem_of_getElem? (i := 66) rfl) rfl
theorem u_307 : Cond.fieldLink "PromiseDesk$Resolvers" 7 "PromiseDesk$Resolvers" "promise" "LPromiseDesk$Promise;" ∈ Tw := Tw_2 (List.mem_of_getElem? (i := 67) rfl) rfl
theorem u_308 : Cond.fieldLink "PromiseDesk" 34 "PromiseDesk$Resolvers" "promise" "LPromiseDesk$Promise;" ∈ Tw := Tw_2 (List.mem_of_getElem? (i := 68) rfl) rfl
theorem u_309 : Cond.fieldLink "PromiseDesk" 269 "PromiseDesk$Resolvers" "called" "Z" ∈ Tw := Tw_2 (List.mem_of_getElem? (i := 69) rfl) rfl
theorem u_310 : Cond.laysFinal "PromiseDesk$Resolvers" "PromiseDesk$Resolvers" "promise" "LPromiseDesk$Promise;" ∈ Tw := Tw_2 (List.mem_of_getElem? (i := 70) rfl) rfl
theorem u_311 : Cond.soleField "PromiseDesk$Resolvers" "promise" ∈ Tw := Tw_2 (List.mem_of_getElem? (i := 71) rfl) rfl
theorem u_312 : Cond.lays "PromiseDesk$Resolvers" "PromiseDesk$Resolvers" "called" "Z" ∈ Tw := Tw_2 (List.mem_of_getElem? (i := 72) rfl) rfl
theorem u_313 : Cond.soleField "PromiseDesk$Resolvers" "called" ∈ Tw := Tw_2 (List.mem_of_getElem? (i := 73) rfl) rfl
theorem u_314 : Cond.superclass "PromiseDesk$Resolvers" "java/lang/Object" ∈ Tw := Tw_2 (List.mem_of_getElem? (i := 74) rfl) rfl
theorem u_315 : Cond.methodLink "PromiseDeskLaw" 87 yL_handler ∈ Tw := Tw_2 (List.mem_of_getElem? (i := 75) rfl) rfl
theorem u_316 : Cond.static yL_handler ∈ Tw := Tw_2 (List.mem_of_getElem? (i := 76) rfl) rfl
theorem u_317 : Cond.codeWith yL_handler method_4_code 5 (Option.some FieldType.int) [(0, 10, 13, 19), (0, 10, 17, 13)] ∈ Tw := Tw_2 (List.mem_of_getElem? (i := 77) rfl) rfl
theorem u_318 : Cond.classLink "PromiseDeskLaw" 19 "java/lang/IllegalArgumentException" ∈ Tw := Tw_2 (List.mem_of_getElem? (i := 78) rfl) rfl
theorem u_319 : Cond.methodLink "PromiseDeskLaw" 15 yX11_handler ∈ Tw := Tw_2 (List.mem_of_getElem? (i := 79) rfl) rfl
theorem u_320 : Cond.instanceMethod yX11_handler ∈ Tw := Tw_2 (List.mem_of_getElem? (i := 80) rfl) rfl
theorem u_321 : Cond.selects "PromiseDesk" yX11_handler yX11_handler ∈ Tw := Tw_2 (List.mem_of_getElem? (i := 81) rfl) rfl
theorem u_322 : Cond.code yX11_handler prog_1_method_3_code 4 (Option.some FieldType.int) ∈ Tw := Tw_2 (List.mem_of_getElem? (i := 82) rfl) rfl
theorem u_323 : Cond.methodLink "PromiseDesk" 50 yX11_requireRange ∈ Tw := Tw_2 (List.mem_of_getElem? (i := 83) rfl) rfl
theorem u_325 : Cond.instanceMethod yX11_requireRange ∈ Tw := Tw_2 (List.mem_of_getElem? (i := 85) rfl) rfl
theorem u_326 : Cond.code yX11_requireRange prog_1_method_21_code 4 (Option.none : Option FieldType) ∈ Tw := Tw_2 (List.mem_of_getElem? (i := 86) rfl) rfl
theorem u_327 : Cond.classLink "PromiseDesk" 213 "java/lang/IllegalArgumentException" ∈ Tw := Tw_2 (List.mem_of_getElem? (i := 87) rfl) rfl
theorem u_328 : Cond.instantiable "java/lang/IllegalArgumentException" 6 ∈ Tw := Tw_2 (List.mem_of_getElem? (i := 88) rfl) rfl
theorem u_330 : Cond.selects "java/lang/IllegalArgumentException" ⟨"java/lang/Throwable", "fillInStackTrace", "(I)Ljava/lang/Throwable;"⟩ ⟨"java/lang/Throwable", "fillInStackTrace", "(I)Ljava/lang/Throwable;"⟩ ∈ Tw := Tw_2 (List.mem_of_getElem? (i := 90) rfl) rfl
theorem u_331 : Cond.lays "java/lang/IllegalArgumentException" "java/lang/Throwable" "cause" "Ljava/lang/Throwable;" ∈ Tw := Tw_2 (List.mem_of_getElem? (i := 91) rfl) rfl
theorem u_332 : Cond.lays "java/lang/IllegalArgumentException" "java/lang/Throwable" "stackTrace" "[Ljava/lang/StackTraceElement;" ∈ Tw := Tw_2 (List.mem_of_getElem? (i := 92) rfl) rfl
theorem u_333 : Cond.lays "java/lang/IllegalArgumentException" "java/lang/Throwable" "suppressedExceptions" "Ljava/util/List;" ∈ Tw := Tw_2 (List.mem_of_getElem? (i := 93) rfl) rfl
theorem u_334 : Cond.lays "java/lang/IllegalArgumentException" "java/lang/Throwable" "detailMessage" "Ljava/lang/String;" ∈ Tw := Tw_2 (List.mem_of_getElem? (i := 94) rfl) rfl
theorem u_335 : Cond.lays "java/lang/IllegalArgumentException" "java/lang/Throwable" "backtrace" "Ljava/lang/Object;" ∈ Tw := Tw_2 (List.mem_of_getElem? (i := 95) rfl) rfl
theorem u_337 : Cond.methodLink "PromiseDesk" 217 ⟨"java/lang/IllegalArgumentException", "<init>", "(Ljava/lang/String;)V"⟩ ∈ Tw := Tw_2 (List.mem_of_getElem? (i := 97) rfl) rfl
theorem u_338 : Cond.instanceMethod ⟨"java/lang/IllegalArgumentException", "<init>", "(Ljava/lang/String;)V"⟩ ∈ Tw := Tw_2 (List.mem_of_getElem? (i := 98) rfl) rfl
theorem u_339 : Cond.code ⟨"java/lang/IllegalArgumentException", "<init>", "(Ljava/lang/String;)V"⟩ prog_18_method_2_code 2 (Option.none : Option FieldType) ∈ Tw := Tw_2 (List.mem_of_getElem? (i := 99) rfl) rfl
theorem u_340 : Cond.methodLink "java/lang/IllegalArgumentException" 7 ⟨"java/lang/RuntimeException", "<init>", "(Ljava/lang/String;)V"⟩ ∈ Tw := Tw_2 (List.mem_of_getElem? (i := 100) rfl) rfl
theorem u_341 : Cond.lays "java/lang/IllegalArgumentException" "java/lang/Throwable" "depth" "I" ∈ Tw := Tw_2 (List.mem_of_getElem? (i := 101) rfl) rfl
theorem u_342 : Cond.superclass "java/lang/IllegalArgumentException" "java/lang/RuntimeException" ∈ Tw := Tw_2 (List.mem_of_getElem? (i := 102) rfl) rfl
theorem u_343 : Cond.methodLink "PromiseDesk" 54 yX11_requireValue ∈ Tw := Tw_2 (List.mem_of_getElem? (i := 103) rfl) rfl
theorem u_345 : Cond.instanceMethod yX11_requireValue ∈ Tw := Tw_2 (List.mem_of_getElem? (i := 105) rfl) rfl
theorem u_346 : Cond.code yX11_requireValue prog_1_method_22_code 3 (Option.none : Option FieldType) ∈ Tw := Tw_2 (List.mem_of_getElem? (i := 106) rfl) rfl
theorem u_347 : Cond.methodLink "PromiseDesk" 220 yX11_thingOf ∈ Tw := Tw_2 (List.mem_of_getElem? (i := 107) rfl) rfl
theorem u_349 : Cond.instanceMethod yX11_thingOf ∈ Tw := Tw_2 (List.mem_of_getElem? (i := 109) rfl) rfl
theorem u_350 : Cond.code yX11_thingOf prog_1_method_31_code 3 (Option.some (FieldType.object "PromiseDesk$Thing")) ∈ Tw := Tw_2 (List.mem_of_getElem? (i := 110) rfl) rfl
theorem u_351 : Cond.methodLink "PromiseDesk" 233 yJx4a65c_get_915e3 ∈ Tw := Tw_2 (List.mem_of_getElem? (i := 111) rfl) rfl
theorem u_352 : Cond.instanceMethod yJx4a65c_get_915e3 ∈ Tw := Tw_2 (List.mem_of_getElem? (i := 112) rfl) rfl
theorem u_353 : Cond.selects "java/util/ArrayList" yJx4a65c_get_915e3 yJx4a65c_get_915e3 ∈ Tw := Tw_2 (List.mem_of_getElem? (i := 113) rfl) rfl
theorem u_354 : Cond.code yJx4a65c_get_915e3 prog_28_method_20_code 2 (Option.some (FieldType.object "java/lang/Object")) ∈ Tw := Tw_2 (List.mem_of_getElem? (i := 114) rfl) rfl
theorem u_355 : Cond.methodLink "java/util/ArrayList" 118 yJ15_checkIndex_7cf53 ∈ Tw := Tw_2 (List.mem_of_getElem? (i := 115) rfl) rfl
theorem u_356 : Cond.static yJ15_checkIndex_7cf53 ∈ Tw := Tw_2 (List.mem_of_getElem? (i := 116) rfl) rfl
theorem u_357 : Cond.code yJ15_checkIndex_7cf53 prog_32_method_17_code 2 (Option.some FieldType.int) ∈ Tw := Tw_2 (List.mem_of_getElem? (i := 117) rfl) rfl
theorem u_358 : Cond.methodLink "java/util/Objects" 105 yJ3_checkIndex_8e157 ∈ Tw := Tw_2 (List.mem_of_getElem? (i := 118) rfl) rfl
theorem u_359 : Cond.static yJ3_checkIndex_8e157 ∈ Tw := Tw_2 (List.mem_of_getElem? (i := 119) rfl) rfl
theorem u_360 : Cond.code yJ3_checkIndex_8e157 prog_36_method_11_code 3 (Option.some FieldType.int) ∈ Tw := Tw_2 (List.mem_of_getElem? (i := 120) rfl) rfl
theorem u_361 : Cond.methodLink "java/util/ArrayList" 123 yJx4a65c_elementData_915e3 ∈ Tw := Tw_2 (List.mem_of_getElem? (i := 121) rfl) rfl
theorem u_362 : Cond.instanceMethod yJx4a65c_elementData_915e3 ∈ Tw := Tw_2 (List.mem_of_getElem? (i := 122) rfl) rfl
theorem u_363 : Cond.selects "java/util/ArrayList" yJx4a65c_elementData_915e3 yJx4a65c_elementData_915e3 ∈ Tw := Tw_2 (List.mem_of_getElem? (i := 123) rfl) rfl
theorem u_364 : Cond.code yJx4a65c_elementData_915e3 prog_28_method_18_code 2 (Option.some (FieldType.object "java/lang/Object")) ∈ Tw := Tw_2 (List.mem_of_getElem? (i := 124) rfl) rfl
theorem u_365 : Cond.classLink "PromiseDesk" 198 "PromiseDesk$Thing" ∈ Tw := Tw_2 (List.mem_of_getElem? (i := 125) rfl) rfl
theorem u_367 : Cond.methodLink "PromiseDesk" 57 yX11_requireKept ∈ Tw := Tw_2 (List.mem_of_getElem? (i := 127) rfl) rfl
theorem u_369 : Cond.instanceMethod yX11_requireKept ∈ Tw := Tw_2 (List.mem_of_getElem? (i := 129) rfl) rfl
theorem u_370 : Cond.code yX11_requireKept prog_1_method_26_code 3 (Option.some (FieldType.object "PromiseDesk$Resolvers")) ∈ Tw := Tw_2 (List.mem_of_getElem? (i := 130) rfl) rfl
theorem u_371 : Cond.methodLink "PromiseDesk" 111 yX11_requirePromise ∈ Tw := Tw_2 (List.mem_of_getElem? (i := 131) rfl) rfl
theorem u_373 : Cond.instanceMethod yX11_requirePromise ∈ Tw := Tw_2 (List.mem_of_getElem? (i := 133) rfl) rfl
theorem u_374 : Cond.code yX11_requirePromise prog_1_method_24_code 4 (Option.some (FieldType.object "PromiseDesk$Promise")) ∈ Tw := Tw_2 (List.mem_of_getElem? (i := 134) rfl) rfl
theorem u_378 : Cond.classLink "PromiseDesk" 72 "PromiseDesk$Simple" ∈ Tw := Tw_2 (List.mem_of_getElem? (i := 138) rfl) rfl
theorem u_379 : Cond.instantiable "PromiseDesk$Simple" 4 ∈ Tw := Tw_2 (List.mem_of_getElem? (i := 139) rfl) rfl
theorem u_380 : Cond.methodLink "PromiseDesk" 74 yX8_init ∈ Tw := Tw_2 (List.mem_of_getElem? (i := 140) rfl) rfl
theorem u_381 : Cond.instanceMethod yX8_init ∈ Tw := Tw_2 (List.mem_of_getElem? (i := 141) rfl) rfl
theorem u_382 : Cond.code yX8_init prog_10_method_1_code 5 (Option.none : Option FieldType) ∈ Tw := Tw_2 (List.mem_of_getElem? (i := 142) rfl) rfl
theorem u_384 : Cond.instanceMethod yX3_init ∈ Tw := Tw_2 (List.mem_of_getElem? (i := 144) rfl) rfl
theorem u_385 : Cond.code yX3_init prog_5_method_1_code 1 (Option.none : Option FieldType) ∈ Tw := Tw_2 (List.mem_of_getElem? (i := 145) rfl) rfl
theorem u_386 : Cond.methodLink "PromiseDesk$Function" 1 ⟨"java/lang/Object", "<init>", "()V"⟩ ∈ Tw := Tw_2 (List.mem_of_getElem? (i := 146) rfl) rfl
theorem u_387 : Cond.fieldLink "PromiseDesk$Simple" 9 "PromiseDesk$Simple" "number" "I" ∈ Tw := Tw_2 (List.mem_of_getElem? (i := 147) rfl) rfl
theorem u_388 : Cond.fieldLink "PromiseDesk$Simple" 15 "PromiseDesk$Simple" "act" "I" ∈ Tw := Tw_2 (List.mem_of_getElem? (i := 148) rfl) rfl
theorem u_389 : Cond.fieldLink "PromiseDesk$Simple" 18 "PromiseDesk$Simple" "value" "I" ∈ Tw := Tw_2 (List.mem_of_getElem? (i := 149) rfl) rfl
theorem u_390 : Cond.fieldLink "PromiseDesk$Simple" 21 "PromiseDesk$Simple" "target" "LPromiseDesk$Resolvers;" ∈ Tw := Tw_2 (List.mem_of_getElem? (i := 150) rfl) rfl
theorem u_391 : Cond.laysFinal "PromiseDesk$Simple" "PromiseDesk$Simple" "number" "I" ∈ Tw := Tw_2 (List.mem_of_getElem? (i := 151) rfl) rfl
theorem u_392 : Cond.soleField "PromiseDesk$Simple" "number" ∈ Tw := Tw_2 (List.mem_of_getElem? (i := 152) rfl) rfl
theorem u_393 : Cond.laysFinal "PromiseDesk$Simple" "PromiseDesk$Simple" "act" "I" ∈ Tw := Tw_2 (List.mem_of_getElem? (i := 153) rfl) rfl
theorem u_394 : Cond.soleField "PromiseDesk$Simple" "act" ∈ Tw := Tw_2 (List.mem_of_getElem? (i := 154) rfl) rfl
theorem u_395 : Cond.laysFinal "PromiseDesk$Simple" "PromiseDesk$Simple" "value" "I" ∈ Tw := Tw_2 (List.mem_of_getElem? (i := 155) rfl) rfl
theorem u_396 : Cond.soleField "PromiseDesk$Simple" "value" ∈ Tw := Tw_2 (List.mem_of_getElem? (i := 156) rfl) rfl
theorem u_397 : Cond.laysFinal "PromiseDesk$Simple" "PromiseDesk$Simple" "target" "LPromiseDesk$Resolvers;" ∈ Tw := Tw_2 (List.mem_of_getElem? (i := 157) rfl) rfl
theorem u_398 : Cond.soleField "PromiseDesk$Simple" "target" ∈ Tw := Tw_2 (List.mem_of_getElem? (i := 158) rfl) rfl
theorem u_399 : Cond.superclass "PromiseDesk$Simple" "PromiseDesk$Function" ∈ Tw := Tw_2 (List.mem_of_getElem? (i := 159) rfl) rfl
theorem u_400 : Cond.methodLink "PromiseDeskLaw" 91 yL_thenable ∈ Tw := Tw_2 (List.mem_of_getElem? (i := 160) rfl) rfl
theorem u_401 : Cond.static yL_thenable ∈ Tw := Tw_2 (List.mem_of_getElem? (i := 161) rfl) rfl
theorem u_402 : Cond.codeWith yL_thenable method_5_code 8 (Option.some FieldType.int) [(0, 16, 19, 19), (0, 16, 23, 13)] ∈ Tw := Tw_2 (List.mem_of_getElem? (i := 162) rfl) rfl
theorem u_403 : Cond.methodLink "PromiseDeskLaw" 21 yX11_thenable ∈ Tw := Tw_2 (List.mem_of_getElem? (i := 163) rfl) rfl
theorem u_404 : Cond.instanceMethod yX11_thenable ∈ Tw := Tw_2 (List.mem_of_getElem? (i := 164) rfl) rfl
theorem u_405 : Cond.selects "PromiseDesk" yX11_thenable yX11_thenable ∈ Tw := Tw_2 (List.mem_of_getElem? (i := 165) rfl) rfl
theorem u_406 : Cond.code yX11_thenable prog_1_method_4_code 7 (Option.some FieldType.int) ∈ Tw := Tw_2 (List.mem_of_getElem? (i := 166) rfl) rfl
theorem u_407 : Cond.classLink "PromiseDesk" 81 "PromiseDesk$Thenable" ∈ Tw := Tw_2 (List.mem_of_getElem? (i := 167) rfl) rfl
theorem u_408 : Cond.instantiable "PromiseDesk$Thenable" 9 ∈ Tw := Tw_2 (List.mem_of_getElem? (i := 168) rfl) rfl
theorem u_409 : Cond.methodLink "PromiseDesk" 86 yX9_init ∈ Tw := Tw_2 (List.mem_of_getElem? (i := 169) rfl) rfl
theorem u_410 : Cond.instanceMethod yX9_init ∈ Tw := Tw_2 (List.mem_of_getElem? (i := 170) rfl) rfl
theorem u_411 : Cond.code yX9_init prog_11_method_1_code 3 (Option.none : Option FieldType) ∈ Tw := Tw_2 (List.mem_of_getElem? (i := 171) rfl) rfl
theorem u_412 : Cond.methodLink "PromiseDesk$Thenable" 3 yX10_init ∈ Tw := Tw_2 (List.mem_of_getElem? (i := 172) rfl) rfl
theorem u_413 : Cond.fieldLink "PromiseDesk$Thenable" 9 "PromiseDesk$Thenable" "what" "I" ∈ Tw := Tw_2 (List.mem_of_getElem? (i := 173) rfl) rfl
theorem u_414 : Cond.fieldLink "PromiseDesk" 283 "PromiseDesk$Thenable" "what" "I" ∈ Tw := Tw_2 (List.mem_of_getElem? (i := 174) rfl) rfl
theorem u_415 : Cond.fieldLink "PromiseDesk" 89 "PromiseDesk$Thenable" "firstAct" "I" ∈ Tw := Tw_2 (List.mem_of_getElem? (i := 175) rfl) rfl
theorem u_416 : Cond.fieldLink "PromiseDesk" 92 "PromiseDesk$Thenable" "firstValue" "I" ∈ Tw := Tw_2 (List.mem_of_getElem? (i := 176) rfl) rfl
theorem u_417 : Cond.fieldLink "PromiseDesk" 95 "PromiseDesk$Thenable" "secondAct" "I" ∈ Tw := Tw_2 (List.mem_of_getElem? (i := 177) rfl) rfl
theorem u_418 : Cond.fieldLink "PromiseDesk" 98 "PromiseDesk$Thenable" "secondValue" "I" ∈ Tw := Tw_2 (List.mem_of_getElem? (i := 178) rfl) rfl
theorem u_419 : Cond.fieldLink "PromiseDesk" 110 "PromiseDesk$Thenable" "kept" "LPromiseDesk$Resolvers;" ∈ Tw := Tw_2 (List.mem_of_getElem? (i := 179) rfl) rfl
theorem u_420 : Cond.laysFinal "PromiseDesk$Thenable" "PromiseDesk$Thenable" "what" "I" ∈ Tw := Tw_2 (List.mem_of_getElem? (i := 180) rfl) rfl
theorem u_421 : Cond.soleField "PromiseDesk$Thenable" "what" ∈ Tw := Tw_2 (List.mem_of_getElem? (i := 181) rfl) rfl
theorem u_422 : Cond.lays "PromiseDesk$Thenable" "PromiseDesk$Thenable" "firstAct" "I" ∈ Tw := Tw_2 (List.mem_of_getElem? (i := 182) rfl) rfl
theorem u_423 : Cond.soleField "PromiseDesk$Thenable" "firstAct" ∈ Tw := Tw_2 (List.mem_of_getElem? (i := 183) rfl) rfl
theorem u_424 : Cond.lays "PromiseDesk$Thenable" "PromiseDesk$Thenable" "firstValue" "I" ∈ Tw := Tw_2 (List.mem_of_getElem? (i := 184) rfl) rfl
theorem u_425 : Cond.soleField "PromiseDesk$Thenable" "firstValue" ∈ Tw := Tw_2 (List.mem_of_getElem? (i := 185) rfl) rfl
theorem u_426 : Cond.lays "PromiseDesk$Thenable" "PromiseDesk$Thenable" "secondAct" "I" ∈ Tw := Tw_2 (List.mem_of_getElem? (i := 186) rfl) rfl
theorem u_427 : Cond.soleField "PromiseDesk$Thenable" "secondAct" ∈ Tw := Tw_2 (List.mem_of_getElem? (i := 187) rfl) rfl
theorem u_428 : Cond.lays "PromiseDesk$Thenable" "PromiseDesk$Thenable" "secondValue" "I" ∈ Tw := Tw_2 (List.mem_of_getElem? (i := 188) rfl) rfl
theorem u_429 : Cond.soleField "PromiseDesk$Thenable" "secondValue" ∈ Tw := Tw_2 (List.mem_of_getElem? (i := 189) rfl) rfl
theorem u_430 : Cond.lays "PromiseDesk$Thenable" "PromiseDesk$Thenable" "kept" "LPromiseDesk$Resolvers;" ∈ Tw := Tw_2 (List.mem_of_getElem? (i := 190) rfl) rfl
theorem u_431 : Cond.soleField "PromiseDesk$Thenable" "kept" ∈ Tw := Tw_2 (List.mem_of_getElem? (i := 191) rfl) rfl
theorem u_432 : Cond.laysFinal "PromiseDesk$Thenable" "PromiseDesk$Thing" "value" "I" ∈ Tw := Tw_2 (List.mem_of_getElem? (i := 192) rfl) rfl
theorem u_433 : Cond.laysFinal "PromiseDesk$Thenable" "PromiseDesk$Thing" "kind" "I" ∈ Tw := Tw_2 (List.mem_of_getElem? (i := 193) rfl) rfl
theorem u_434 : Cond.laysFinal "PromiseDesk$Thenable" "PromiseDesk$Thing" "parts" "[I" ∈ Tw := Tw_2 (List.mem_of_getElem? (i := 194) rfl) rfl
theorem u_435 : Cond.superclass "PromiseDesk$Thenable" "PromiseDesk$Thing" ∈ Tw := Tw_2 (List.mem_of_getElem? (i := 195) rfl) rfl
theorem u_436 : Cond.methodLink "PromiseDeskLaw" 95 yL_settle ∈ Tw := Tw_2 (List.mem_of_getElem? (i := 196) rfl) rfl
theorem u_437 : Cond.static yL_settle ∈ Tw := Tw_2 (List.mem_of_getElem? (i := 197) rfl) rfl
theorem u_438 : Cond.codeWith yL_settle method_6_code 6 (Option.some FieldType.int) [(0, 19, 22, 19), (0, 19, 26, 13)] ∈ Tw := Tw_2 (List.mem_of_getElem? (i := 198) rfl) rfl
theorem u_439 : Cond.methodLink "PromiseDeskLaw" 25 yX11_settle ∈ Tw := Tw_2 (List.mem_of_getElem? (i := 199) rfl) rfl
theorem u_440 : Cond.instanceMethod yX11_settle ∈ Tw := Tw_2 (List.mem_of_getElem? (i := 200) rfl) rfl
theorem u_441 : Cond.selects "PromiseDesk" yX11_settle yX11_settle ∈ Tw := Tw_2 (List.mem_of_getElem? (i := 201) rfl) rfl
theorem u_442 : Cond.code yX11_settle prog_1_method_5_code 5 (Option.some FieldType.boolean) ∈ Tw := Tw_2 (List.mem_of_getElem? (i := 202) rfl) rfl
theorem u_443 : Cond.methodLink "PromiseDesk" 102 yX11_callOneOf ∈ Tw := Tw_2 (List.mem_of_getElem? (i := 203) rfl) rfl
theorem u_445 : Cond.instanceMethod yX11_callOneOf ∈ Tw := Tw_2 (List.mem_of_getElem? (i := 205) rfl) rfl
theorem u_446 : Cond.code yX11_callOneOf prog_1_method_39_code 5 (Option.some FieldType.boolean) ∈ Tw := Tw_2 (List.mem_of_getElem? (i := 206) rfl) rfl
theorem u_447 : Cond.methodLink "PromiseDesk" 131 yX11_reject ∈ Tw := Tw_2 (List.mem_of_getElem? (i := 207) rfl) rfl
theorem u_449 : Cond.instanceMethod yX11_reject ∈ Tw := Tw_2 (List.mem_of_getElem? (i := 209) rfl) rfl
theorem u_450 : Cond.code yX11_reject prog_1_method_42_code 3 (Option.none : Option FieldType) ∈ Tw := Tw_2 (List.mem_of_getElem? (i := 210) rfl) rfl
theorem u_451 : Cond.methodLink "PromiseDesk" 279 yX11_close ∈ Tw := Tw_2 (List.mem_of_getElem? (i := 211) rfl) rfl
theorem u_453 : Cond.instanceMethod yX11_close ∈ Tw := Tw_2 (List.mem_of_getElem? (i := 213) rfl) rfl
theorem u_454 : Cond.code yX11_close prog_1_method_43_code 6 (Option.none : Option FieldType) ∈ Tw := Tw_2 (List.mem_of_getElem? (i := 214) rfl) rfl
theorem u_455 : Cond.methodLink "PromiseDesk" 303 yX4_hear ∈ Tw := Tw_2 (List.mem_of_getElem? (i := 215) rfl) rfl
theorem u_456 : Cond.instanceMethod yX4_hear ∈ Tw := Tw_2 (List.mem_of_getElem? (i := 216) rfl) rfl
theorem u_457 : Cond.selects "PromiseDesk$Job" yX4_hear yX4_hear ∈ Tw := Tw_2 (List.mem_of_getElem? (i := 217) rfl) rfl
theorem u_458 : Cond.code yX4_hear prog_6_method_5_code 3 (Option.none : Option FieldType) ∈ Tw := Tw_2 (List.mem_of_getElem? (i := 218) rfl) rfl
theorem u_459 : Cond.methodLink "PromiseDesk" 294 yX11_enqueue ∈ Tw := Tw_2 (List.mem_of_getElem? (i := 219) rfl) rfl
theorem u_461 : Cond.instanceMethod yX11_enqueue ∈ Tw := Tw_2 (List.mem_of_getElem? (i := 221) rfl) rfl
theorem u_462 : Cond.code yX11_enqueue prog_1_method_37_code 2 (Option.none : Option FieldType) ∈ Tw := Tw_2 (List.mem_of_getElem? (i := 222) rfl) rfl
theorem u_463 : Cond.methodLink "PromiseDesk" 272 yX11_resolve ∈ Tw := Tw_2 (List.mem_of_getElem? (i := 223) rfl) rfl
theorem u_465 : Cond.instanceMethod yX11_resolve ∈ Tw := Tw_2 (List.mem_of_getElem? (i := 225) rfl) rfl
theorem u_466 : Cond.code yX11_resolve prog_1_method_40_code 6 (Option.none : Option FieldType) ∈ Tw := Tw_2 (List.mem_of_getElem? (i := 226) rfl) rfl
theorem u_467 : Cond.methodLink "PromiseDesk" 275 yX11_newThing ∈ Tw := Tw_2 (List.mem_of_getElem? (i := 227) rfl) rfl
theorem u_469 : Cond.instanceMethod yX11_newThing ∈ Tw := Tw_2 (List.mem_of_getElem? (i := 229) rfl) rfl
theorem u_470 : Cond.code yX11_newThing prog_1_method_33_code 4 (Option.some FieldType.int) ∈ Tw := Tw_2 (List.mem_of_getElem? (i := 230) rfl) rfl
theorem u_471 : Cond.instantiable "PromiseDesk$Thing" 3 ∈ Tw := Tw_2 (List.mem_of_getElem? (i := 231) rfl) rfl
theorem u_472 : Cond.methodLink "PromiseDesk" 246 yX10_init ∈ Tw := Tw_2 (List.mem_of_getElem? (i := 232) rfl) rfl
theorem u_473 : Cond.laysFinal "PromiseDesk$Thing" "PromiseDesk$Thing" "value" "I" ∈ Tw := Tw_2 (List.mem_of_getElem? (i := 233) rfl) rfl
theorem u_474 : Cond.laysFinal "PromiseDesk$Thing" "PromiseDesk$Thing" "kind" "I" ∈ Tw := Tw_2 (List.mem_of_getElem? (i := 234) rfl) rfl
theorem u_475 : Cond.laysFinal "PromiseDesk$Thing" "PromiseDesk$Thing" "parts" "[I" ∈ Tw := Tw_2 (List.mem_of_getElem? (i := 235) rfl) rfl
theorem u_476 : Cond.superclass "PromiseDesk$Thing" "java/lang/Object" ∈ Tw := Tw_2 (List.mem_of_getElem? (i := 236) rfl) rfl
theorem u_477 : Cond.methodLink "PromiseDesk" 286 yX11_hasThenFunction ∈ Tw := Tw_2 (List.mem_of_getElem? (i := 237) rfl) rfl
theorem u_479 : Cond.instanceMethod yX11_hasThenFunction ∈ Tw := Tw_2 (List.mem_of_getElem? (i := 239) rfl) rfl
theorem u_480 : Cond.code yX11_hasThenFunction prog_1_method_41_code 3 (Option.some FieldType.boolean) ∈ Tw := Tw_3 (List.mem_of_getElem? (i := 0) rfl) rfl
theorem u_481 : Cond.methodLink "PromiseDesk" 290 yX4_follow ∈ Tw := Tw_3 (List.mem_of_getElem? (i := 1) rfl) rfl
theorem u_482 : Cond.static yX4_follow ∈ Tw := Tw_3 (List.mem_of_getElem? (i := 2) rfl) rfl
theorem u_483 : Cond.code yX4_follow prog_6_method_4_code 2 (Option.some (FieldType.object "PromiseDesk$Job")) ∈ Tw := Tw_3 (List.mem_of_getElem? (i := 3) rfl) rfl
theorem u_484 : Cond.classLink "PromiseDesk$Job" 8 "PromiseDesk$Job" ∈ Tw := Tw_3 (List.mem_of_getElem? (i := 4) rfl) rfl
theorem u_485 : Cond.instantiable "PromiseDesk$Job" 8 ∈ Tw := Tw_3 (List.mem_of_getElem? (i := 5) rfl) rfl
theorem u_486 : Cond.classLink "PromiseDesk$Job" 31 "PromiseDesk$Resolvers" ∈ Tw := Tw_3 (List.mem_of_getElem? (i := 6) rfl) rfl
theorem u_487 : Cond.methodLink "PromiseDesk$Job" 33 yX7_init ∈ Tw := Tw_3 (List.mem_of_getElem? (i := 7) rfl) rfl
theorem u_488 : Cond.methodLink "PromiseDesk$Job" 28 yX4_init ∈ Tw := Tw_3 (List.mem_of_getElem? (i := 8) rfl) rfl
theorem u_489 : Cond.instanceMethod yX4_init ∈ Tw := Tw_3 (List.mem_of_getElem? (i := 9) rfl) rfl
theorem u_490 : Cond.code yX4_init prog_6_method_1_code 6 (Option.none : Option FieldType) ∈ Tw := Tw_3 (List.mem_of_getElem? (i := 10) rfl) rfl
theorem u_491 : Cond.methodLink "PromiseDesk$Job" 1 ⟨"java/lang/Object", "<init>", "()V"⟩ ∈ Tw := Tw_3 (List.mem_of_getElem? (i := 11) rfl) rfl
theorem u_492 : Cond.fieldLink "PromiseDesk$Job" 7 "PromiseDesk$Job" "yes" "LPromiseDesk$Function;" ∈ Tw := Tw_3 (List.mem_of_getElem? (i := 12) rfl) rfl
theorem u_493 : Cond.fieldLink "PromiseDesk" 348 "PromiseDesk$Job" "yes" "LPromiseDesk$Function;" ∈ Tw := Tw_3 (List.mem_of_getElem? (i := 13) rfl) rfl
theorem u_494 : Cond.fieldLink "PromiseDesk$Job" 13 "PromiseDesk$Job" "no" "LPromiseDesk$Function;" ∈ Tw := Tw_3 (List.mem_of_getElem? (i := 14) rfl) rfl
theorem u_495 : Cond.fieldLink "PromiseDesk" 344 "PromiseDesk$Job" "no" "LPromiseDesk$Function;" ∈ Tw := Tw_3 (List.mem_of_getElem? (i := 15) rfl) rfl
theorem u_496 : Cond.fieldLink "PromiseDesk$Job" 16 "PromiseDesk$Job" "capability" "LPromiseDesk$Resolvers;" ∈ Tw := Tw_3 (List.mem_of_getElem? (i := 16) rfl) rfl
theorem u_497 : Cond.fieldLink "PromiseDesk" 327 "PromiseDesk$Job" "capability" "LPromiseDesk$Resolvers;" ∈ Tw := Tw_3 (List.mem_of_getElem? (i := 17) rfl) rfl
theorem u_498 : Cond.fieldLink "PromiseDesk$Job" 20 "PromiseDesk$Job" "run" "LPromiseDesk$AsyncRun;" ∈ Tw := Tw_3 (List.mem_of_getElem? (i := 18) rfl) rfl
theorem u_499 : Cond.fieldLink "PromiseDesk" 315 "PromiseDesk$Job" "run" "LPromiseDesk$AsyncRun;" ∈ Tw := Tw_3 (List.mem_of_getElem? (i := 19) rfl) rfl
theorem u_500 : Cond.fieldLink "PromiseDesk$Job" 24 "PromiseDesk$Job" "followed" "LPromiseDesk$Thing;" ∈ Tw := Tw_3 (List.mem_of_getElem? (i := 20) rfl) rfl
theorem u_501 : Cond.fieldLink "PromiseDesk" 323 "PromiseDesk$Job" "followed" "LPromiseDesk$Thing;" ∈ Tw := Tw_3 (List.mem_of_getElem? (i := 21) rfl) rfl
theorem u_502 : Cond.fieldLink "PromiseDesk$Job" 36 "PromiseDesk$Job" "rejects" "Z" ∈ Tw := Tw_3 (List.mem_of_getElem? (i := 22) rfl) rfl
theorem u_503 : Cond.fieldLink "PromiseDesk" 341 "PromiseDesk$Job" "rejects" "Z" ∈ Tw := Tw_3 (List.mem_of_getElem? (i := 23) rfl) rfl
theorem u_504 : Cond.fieldLink "PromiseDesk$Job" 40 "PromiseDesk$Job" "argument" "I" ∈ Tw := Tw_3 (List.mem_of_getElem? (i := 24) rfl) rfl
theorem u_505 : Cond.fieldLink "PromiseDesk" 354 "PromiseDesk$Job" "argument" "I" ∈ Tw := Tw_3 (List.mem_of_getElem? (i := 25) rfl) rfl
theorem u_506 : Cond.fieldLink "PromiseDesk" 264 "PromiseDesk$Job" "next" "LPromiseDesk$Job;" ∈ Tw := Tw_3 (List.mem_of_getElem? (i := 26) rfl) rfl
theorem u_507 : Cond.laysFinal "PromiseDesk$Job" "PromiseDesk$Job" "yes" "LPromiseDesk$Function;" ∈ Tw := Tw_3 (List.mem_of_getElem? (i := 27) rfl) rfl
theorem u_508 : Cond.soleField "PromiseDesk$Job" "yes" ∈ Tw := Tw_3 (List.mem_of_getElem? (i := 28) rfl) rfl
theorem u_509 : Cond.laysFinal "PromiseDesk$Job" "PromiseDesk$Job" "no" "LPromiseDesk$Function;" ∈ Tw := Tw_3 (List.mem_of_getElem? (i := 29) rfl) rfl
theorem u_510 : Cond.soleField "PromiseDesk$Job" "no" ∈ Tw := Tw_3 (List.mem_of_getElem? (i := 30) rfl) rfl
theorem u_511 : Cond.laysFinal "PromiseDesk$Job" "PromiseDesk$Job" "capability" "LPromiseDesk$Resolvers;" ∈ Tw := Tw_3 (List.mem_of_getElem? (i := 31) rfl) rfl
theorem u_512 : Cond.soleField "PromiseDesk$Job" "capability" ∈ Tw := Tw_3 (List.mem_of_getElem? (i := 32) rfl) rfl
theorem u_513 : Cond.laysFinal "PromiseDesk$Job" "PromiseDesk$Job" "run" "LPromiseDesk$AsyncRun;" ∈ Tw := Tw_3 (List.mem_of_getElem? (i := 33) rfl) rfl
theorem u_514 : Cond.soleField "PromiseDesk$Job" "run" ∈ Tw := Tw_3 (List.mem_of_getElem? (i := 34) rfl) rfl
theorem u_515 : Cond.laysFinal "PromiseDesk$Job" "PromiseDesk$Job" "followed" "LPromiseDesk$Thing;" ∈ Tw := Tw_3 (List.mem_of_getElem? (i := 35) rfl) rfl
theorem u_516 : Cond.soleField "PromiseDesk$Job" "followed" ∈ Tw := Tw_3 (List.mem_of_getElem? (i := 36) rfl) rfl
theorem u_517 : Cond.lays "PromiseDesk$Job" "PromiseDesk$Job" "rejects" "Z" ∈ Tw := Tw_3 (List.mem_of_getElem? (i := 37) rfl) rfl
theorem u_518 : Cond.soleField "PromiseDesk$Job" "rejects" ∈ Tw := Tw_3 (List.mem_of_getElem? (i := 38) rfl) rfl
theorem u_519 : Cond.lays "PromiseDesk$Job" "PromiseDesk$Job" "argument" "I" ∈ Tw := Tw_3 (List.mem_of_getElem? (i := 39) rfl) rfl
theorem u_520 : Cond.soleField "PromiseDesk$Job" "argument" ∈ Tw := Tw_3 (List.mem_of_getElem? (i := 40) rfl) rfl
theorem u_521 : Cond.lays "PromiseDesk$Job" "PromiseDesk$Job" "next" "LPromiseDesk$Job;" ∈ Tw := Tw_3 (List.mem_of_getElem? (i := 41) rfl) rfl
theorem u_522 : Cond.soleField "PromiseDesk$Job" "next" ∈ Tw := Tw_3 (List.mem_of_getElem? (i := 42) rfl) rfl
theorem u_523 : Cond.superclass "PromiseDesk$Job" "java/lang/Object" ∈ Tw := Tw_3 (List.mem_of_getElem? (i := 43) rfl) rfl
theorem u_524 : Cond.methodLink "PromiseDeskLaw" 99 yL_later ∈ Tw := Tw_3 (List.mem_of_getElem? (i := 44) rfl) rfl
theorem u_525 : Cond.static yL_later ∈ Tw := Tw_3 (List.mem_of_getElem? (i := 45) rfl) rfl
theorem u_526 : Cond.codeWith yL_later method_7_code 6 (Option.some FieldType.int) [(0, 12, 15, 19), (0, 12, 19, 13)] ∈ Tw := Tw_3 (List.mem_of_getElem? (i := 46) rfl) rfl
theorem u_527 : Cond.methodLink "PromiseDeskLaw" 29 yX11_later ∈ Tw := Tw_3 (List.mem_of_getElem? (i := 47) rfl) rfl
theorem u_528 : Cond.instanceMethod yX11_later ∈ Tw := Tw_3 (List.mem_of_getElem? (i := 48) rfl) rfl
theorem u_529 : Cond.selects "PromiseDesk" yX11_later yX11_later ∈ Tw := Tw_3 (List.mem_of_getElem? (i := 49) rfl) rfl
theorem u_530 : Cond.code yX11_later prog_1_method_6_code 5 (Option.some FieldType.int) ∈ Tw := Tw_3 (List.mem_of_getElem? (i := 50) rfl) rfl
theorem u_531 : Cond.methodLink "PromiseDesk" 106 yX11_requireThenable ∈ Tw := Tw_3 (List.mem_of_getElem? (i := 51) rfl) rfl
theorem u_533 : Cond.instanceMethod yX11_requireThenable ∈ Tw := Tw_3 (List.mem_of_getElem? (i := 53) rfl) rfl
theorem u_534 : Cond.code yX11_requireThenable prog_1_method_25_code 4 (Option.some (FieldType.object "PromiseDesk$Thenable")) ∈ Tw := Tw_3 (List.mem_of_getElem? (i := 54) rfl) rfl
theorem u_536 : Cond.methodLink "PromiseDeskLaw" 102 yL_then ∈ Tw := Tw_3 (List.mem_of_getElem? (i := 56) rfl) rfl
theorem u_537 : Cond.static yL_then ∈ Tw := Tw_3 (List.mem_of_getElem? (i := 57) rfl) rfl
theorem u_538 : Cond.codeWith yL_then method_8_code 7 (Option.some FieldType.int) [(0, 14, 17, 19), (0, 14, 21, 13)] ∈ Tw := Tw_3 (List.mem_of_getElem? (i := 58) rfl) rfl
theorem u_539 : Cond.methodLink "PromiseDeskLaw" 33 yX11_then ∈ Tw := Tw_3 (List.mem_of_getElem? (i := 59) rfl) rfl
theorem u_540 : Cond.instanceMethod yX11_then ∈ Tw := Tw_3 (List.mem_of_getElem? (i := 60) rfl) rfl
theorem u_541 : Cond.selects "PromiseDesk" yX11_then yX11_then ∈ Tw := Tw_3 (List.mem_of_getElem? (i := 61) rfl) rfl
theorem u_542 : Cond.code yX11_then prog_1_method_7_code 8 (Option.some FieldType.int) ∈ Tw := Tw_3 (List.mem_of_getElem? (i := 62) rfl) rfl
theorem u_543 : Cond.methodLink "PromiseDesk" 115 yX11_requireHandler ∈ Tw := Tw_3 (List.mem_of_getElem? (i := 63) rfl) rfl
theorem u_545 : Cond.instanceMethod yX11_requireHandler ∈ Tw := Tw_3 (List.mem_of_getElem? (i := 65) rfl) rfl
theorem u_546 : Cond.code yX11_requireHandler prog_1_method_27_code 2 (Option.some (FieldType.object "PromiseDesk$Simple")) ∈ Tw := Tw_3 (List.mem_of_getElem? (i := 66) rfl) rfl
theorem u_547 : Cond.methodLink "PromiseDesk" 119 yX11_derive ∈ Tw := Tw_3 (List.mem_of_getElem? (i := 67) rfl) rfl
theorem u_549 : Cond.instanceMethod yX11_derive ∈ Tw := Tw_3 (List.mem_of_getElem? (i := 69) rfl) rfl
theorem u_550 : Cond.code yX11_derive prog_1_method_45_code 5 (Option.some FieldType.int) ∈ Tw := Tw_3 (List.mem_of_getElem? (i := 70) rfl) rfl
theorem u_551 : Cond.methodLink "PromiseDesk" 307 yX4_reaction ∈ Tw := Tw_3 (List.mem_of_getElem? (i := 71) rfl) rfl
theorem u_552 : Cond.static yX4_reaction ∈ Tw := Tw_3 (List.mem_of_getElem? (i := 72) rfl) rfl
theorem u_553 : Cond.code yX4_reaction prog_6_method_2_code 3 (Option.some (FieldType.object "PromiseDesk$Job")) ∈ Tw := Tw_3 (List.mem_of_getElem? (i := 73) rfl) rfl
theorem u_554 : Cond.methodLink "PromiseDesk" 311 yX11_attach ∈ Tw := Tw_3 (List.mem_of_getElem? (i := 74) rfl) rfl
theorem u_556 : Cond.instanceMethod yX11_attach ∈ Tw := Tw_3 (List.mem_of_getElem? (i := 76) rfl) rfl
theorem u_557 : Cond.code yX11_attach prog_1_method_46_code 3 (Option.none : Option FieldType) ∈ Tw := Tw_3 (List.mem_of_getElem? (i := 77) rfl) rfl
theorem u_558 : Cond.methodLink "PromiseDeskLaw" 106 yL_lastly ∈ Tw := Tw_3 (List.mem_of_getElem? (i := 78) rfl) rfl
theorem u_559 : Cond.static yL_lastly ∈ Tw := Tw_3 (List.mem_of_getElem? (i := 79) rfl) rfl
theorem u_560 : Cond.codeWith yL_lastly method_9_code 5 (Option.some FieldType.int) [(0, 10, 13, 19), (0, 10, 17, 13)] ∈ Tw := Tw_3 (List.mem_of_getElem? (i := 80) rfl) rfl
theorem u_561 : Cond.methodLink "PromiseDeskLaw" 37 yX11_lastly ∈ Tw := Tw_3 (List.mem_of_getElem? (i := 81) rfl) rfl
theorem u_562 : Cond.instanceMethod yX11_lastly ∈ Tw := Tw_3 (List.mem_of_getElem? (i := 82) rfl) rfl
theorem u_563 : Cond.selects "PromiseDesk" yX11_lastly yX11_lastly ∈ Tw := Tw_3 (List.mem_of_getElem? (i := 83) rfl) rfl
theorem u_564 : Cond.code yX11_lastly prog_1_method_8_code 5 (Option.some FieldType.int) ∈ Tw := Tw_3 (List.mem_of_getElem? (i := 84) rfl) rfl
theorem u_565 : Cond.classLink "PromiseDesk" 123 "PromiseDesk$Lastly" ∈ Tw := Tw_3 (List.mem_of_getElem? (i := 85) rfl) rfl
theorem u_566 : Cond.instantiable "PromiseDesk$Lastly" 2 ∈ Tw := Tw_3 (List.mem_of_getElem? (i := 86) rfl) rfl
theorem u_567 : Cond.methodLink "PromiseDesk" 125 yX5_init ∈ Tw := Tw_3 (List.mem_of_getElem? (i := 87) rfl) rfl
theorem u_568 : Cond.instanceMethod yX5_init ∈ Tw := Tw_3 (List.mem_of_getElem? (i := 88) rfl) rfl
theorem u_569 : Cond.code yX5_init prog_7_method_1_code 3 (Option.none : Option FieldType) ∈ Tw := Tw_3 (List.mem_of_getElem? (i := 89) rfl) rfl
theorem u_571 : Cond.fieldLink "PromiseDesk$Lastly" 9 "PromiseDesk$Lastly" "handler" "LPromiseDesk$Simple;" ∈ Tw := Tw_3 (List.mem_of_getElem? (i := 91) rfl) rfl
theorem u_572 : Cond.fieldLink "PromiseDesk$Lastly" 15 "PromiseDesk$Lastly" "actBehind" "I" ∈ Tw := Tw_3 (List.mem_of_getElem? (i := 92) rfl) rfl
theorem u_573 : Cond.laysFinal "PromiseDesk$Lastly" "PromiseDesk$Lastly" "handler" "LPromiseDesk$Simple;" ∈ Tw := Tw_3 (List.mem_of_getElem? (i := 93) rfl) rfl
theorem u_574 : Cond.soleField "PromiseDesk$Lastly" "handler" ∈ Tw := Tw_3 (List.mem_of_getElem? (i := 94) rfl) rfl
theorem u_575 : Cond.laysFinal "PromiseDesk$Lastly" "PromiseDesk$Lastly" "actBehind" "I" ∈ Tw := Tw_3 (List.mem_of_getElem? (i := 95) rfl) rfl
theorem u_576 : Cond.soleField "PromiseDesk$Lastly" "actBehind" ∈ Tw := Tw_3 (List.mem_of_getElem? (i := 96) rfl) rfl
theorem u_577 : Cond.superclass "PromiseDesk$Lastly" "PromiseDesk$Function" ∈ Tw := Tw_3 (List.mem_of_getElem? (i := 97) rfl) rfl
theorem u_578 : Cond.methodLink "PromiseDeskLaw" 109 yL_wrap ∈ Tw := Tw_3 (List.mem_of_getElem? (i := 98) rfl) rfl
theorem u_579 : Cond.static yL_wrap ∈ Tw := Tw_3 (List.mem_of_getElem? (i := 99) rfl) rfl
theorem u_580 : Cond.codeWith yL_wrap method_10_code 4 (Option.some FieldType.int) [(0, 9, 12, 19), (0, 9, 15, 13)] ∈ Tw := Tw_3 (List.mem_of_getElem? (i := 100) rfl) rfl
theorem u_581 : Cond.methodLink "PromiseDeskLaw" 40 yX11_wrap ∈ Tw := Tw_3 (List.mem_of_getElem? (i := 101) rfl) rfl
theorem u_582 : Cond.instanceMethod yX11_wrap ∈ Tw := Tw_3 (List.mem_of_getElem? (i := 102) rfl) rfl
theorem u_583 : Cond.selects "PromiseDesk" yX11_wrap yX11_wrap ∈ Tw := Tw_3 (List.mem_of_getElem? (i := 103) rfl) rfl
theorem u_584 : Cond.code yX11_wrap prog_1_method_9_code 2 (Option.some FieldType.int) ∈ Tw := Tw_3 (List.mem_of_getElem? (i := 104) rfl) rfl
theorem u_585 : Cond.methodLink "PromiseDesk" 128 yX11_promiseFor ∈ Tw := Tw_3 (List.mem_of_getElem? (i := 105) rfl) rfl
theorem u_587 : Cond.instanceMethod yX11_promiseFor ∈ Tw := Tw_3 (List.mem_of_getElem? (i := 107) rfl) rfl
theorem u_588 : Cond.code yX11_promiseFor prog_1_method_44_code 4 (Option.some (FieldType.object "PromiseDesk$Promise")) ∈ Tw := Tw_3 (List.mem_of_getElem? (i := 108) rfl) rfl
theorem u_589 : Cond.methodLink "PromiseDeskLaw" 113 yL_broken ∈ Tw := Tw_3 (List.mem_of_getElem? (i := 109) rfl) rfl
theorem u_590 : Cond.static yL_broken ∈ Tw := Tw_3 (List.mem_of_getElem? (i := 110) rfl) rfl
theorem u_591 : Cond.codeWith yL_broken method_11_code 4 (Option.some FieldType.int) [(0, 9, 12, 19), (0, 9, 15, 13)] ∈ Tw := Tw_3 (List.mem_of_getElem? (i := 111) rfl) rfl
theorem u_592 : Cond.methodLink "PromiseDeskLaw" 44 yX11_broken ∈ Tw := Tw_3 (List.mem_of_getElem? (i := 112) rfl) rfl
theorem u_593 : Cond.instanceMethod yX11_broken ∈ Tw := Tw_3 (List.mem_of_getElem? (i := 113) rfl) rfl
theorem u_594 : Cond.selects "PromiseDesk" yX11_broken yX11_broken ∈ Tw := Tw_3 (List.mem_of_getElem? (i := 114) rfl) rfl
theorem u_595 : Cond.code yX11_broken prog_1_method_10_code 3 (Option.some FieldType.int) ∈ Tw := Tw_3 (List.mem_of_getElem? (i := 115) rfl) rfl
theorem u_596 : Cond.methodLink "PromiseDeskLaw" 116 yL_item ∈ Tw := Tw_3 (List.mem_of_getElem? (i := 116) rfl) rfl
theorem u_597 : Cond.static yL_item ∈ Tw := Tw_3 (List.mem_of_getElem? (i := 117) rfl) rfl
theorem u_598 : Cond.codeWith yL_item method_12_code 4 (Option.some FieldType.int) [(0, 9, 12, 19), (0, 9, 15, 13)] ∈ Tw := Tw_3 (List.mem_of_getElem? (i := 118) rfl) rfl
theorem u_599 : Cond.methodLink "PromiseDeskLaw" 47 yX11_item ∈ Tw := Tw_3 (List.mem_of_getElem? (i := 119) rfl) rfl
theorem u_600 : Cond.instanceMethod yX11_item ∈ Tw := Tw_3 (List.mem_of_getElem? (i := 120) rfl) rfl
theorem u_601 : Cond.selects "PromiseDesk" yX11_item yX11_item ∈ Tw := Tw_3 (List.mem_of_getElem? (i := 121) rfl) rfl
theorem u_602 : Cond.code yX11_item prog_1_method_11_code 2 (Option.some FieldType.int) ∈ Tw := Tw_3 (List.mem_of_getElem? (i := 122) rfl) rfl
theorem u_604 : Cond.methodLink "PromiseDeskLaw" 119 yL_combine ∈ Tw := Tw_3 (List.mem_of_getElem? (i := 124) rfl) rfl
theorem u_605 : Cond.static yL_combine ∈ Tw := Tw_3 (List.mem_of_getElem? (i := 125) rfl) rfl
theorem u_606 : Cond.codeWith yL_combine method_13_code 4 (Option.some FieldType.int) [(0, 9, 12, 19), (0, 9, 15, 13)] ∈ Tw := Tw_3 (List.mem_of_getElem? (i := 126) rfl) rfl
theorem u_607 : Cond.methodLink "PromiseDeskLaw" 50 yX11_combine ∈ Tw := Tw_3 (List.mem_of_getElem? (i := 127) rfl) rfl
theorem u_608 : Cond.instanceMethod yX11_combine ∈ Tw := Tw_3 (List.mem_of_getElem? (i := 128) rfl) rfl
theorem u_609 : Cond.selects "PromiseDesk" yX11_combine yX11_combine ∈ Tw := Tw_3 (List.mem_of_getElem? (i := 129) rfl) rfl
theorem u_610 : Cond.code yX11_combine prog_1_method_12_code 7 (Option.some FieldType.int) ∈ Tw := Tw_3 (List.mem_of_getElem? (i := 130) rfl) rfl
theorem u_611 : Cond.methodLink "PromiseDesk" 140 yX11_takeList ∈ Tw := Tw_3 (List.mem_of_getElem? (i := 131) rfl) rfl
theorem u_613 : Cond.instanceMethod yX11_takeList ∈ Tw := Tw_3 (List.mem_of_getElem? (i := 133) rfl) rfl
theorem u_614 : Cond.code yX11_takeList prog_1_method_36_code 2 (Option.some (FieldType.array FieldType.int)) ∈ Tw := Tw_3 (List.mem_of_getElem? (i := 134) rfl) rfl
theorem u_615 : Cond.methodLink "PromiseDesk" 255 yJ7_copyOf_59c91 ∈ Tw := Tw_3 (List.mem_of_getElem? (i := 135) rfl) rfl
theorem u_616 : Cond.static yJ7_copyOf_59c91 ∈ Tw := Tw_3 (List.mem_of_getElem? (i := 136) rfl) rfl
theorem u_617 : Cond.code yJ7_copyOf_59c91 prog_29_method_123_code 3 (Option.some (FieldType.array FieldType.int)) ∈ Tw := Tw_3 (List.mem_of_getElem? (i := 137) rfl) rfl
theorem u_618 : Cond.methodLink "java/util/Arrays" 316 ⟨"[I", "clone", "()Ljava/lang/Object;"⟩ ∈ Tw := Tw_3 (List.mem_of_getElem? (i := 138) rfl) rfl
theorem u_619 : Cond.sameMethod "[I" "java/lang/Object" "clone" "()Ljava/lang/Object;" ∈ Tw := Tw_3 (List.mem_of_getElem? (i := 139) rfl) rfl
theorem u_620 : Cond.native ⟨"java/lang/Object", "clone", "()Ljava/lang/Object;"⟩ ∈ Tw := Tw_3 (List.mem_of_getElem? (i := 140) rfl) rfl
theorem u_621 : Cond.instanceMethod ⟨"java/lang/Object", "clone", "()Ljava/lang/Object;"⟩ ∈ Tw := Tw_3 (List.mem_of_getElem? (i := 141) rfl) rfl
theorem u_622 : Cond.selects "[I" ⟨"[I", "clone", "()Ljava/lang/Object;"⟩ ⟨"java/lang/Object", "clone", "()Ljava/lang/Object;"⟩ ∈ Tw := Tw_3 (List.mem_of_getElem? (i := 142) rfl) rfl
theorem u_624 : Cond.classLink "java/util/Arrays" 317 "[I" ∈ Tw := Tw_3 (List.mem_of_getElem? (i := 144) rfl) rfl
theorem u_625 : Cond.classLink "PromiseDesk" 144 "PromiseDesk$Combination" ∈ Tw := Tw_3 (List.mem_of_getElem? (i := 145) rfl) rfl
theorem u_626 : Cond.instantiable "PromiseDesk$Combination" 4 ∈ Tw := Tw_3 (List.mem_of_getElem? (i := 146) rfl) rfl
theorem u_627 : Cond.methodLink "PromiseDesk" 146 yX1_init ∈ Tw := Tw_3 (List.mem_of_getElem? (i := 147) rfl) rfl
theorem u_628 : Cond.instanceMethod yX1_init ∈ Tw := Tw_3 (List.mem_of_getElem? (i := 148) rfl) rfl
theorem u_629 : Cond.code yX1_init prog_3_method_1_code 4 (Option.none : Option FieldType) ∈ Tw := Tw_3 (List.mem_of_getElem? (i := 149) rfl) rfl
theorem u_630 : Cond.methodLink "PromiseDesk$Combination" 1 ⟨"java/lang/Object", "<init>", "()V"⟩ ∈ Tw := Tw_3 (List.mem_of_getElem? (i := 150) rfl) rfl
theorem u_631 : Cond.fieldLink "PromiseDesk$Combination" 7 "PromiseDesk$Combination" "sort" "I" ∈ Tw := Tw_3 (List.mem_of_getElem? (i := 151) rfl) rfl
theorem u_632 : Cond.fieldLink "PromiseDesk$Element" 26 "PromiseDesk$Combination" "sort" "I" ∈ Tw := Tw_3 (List.mem_of_getElem? (i := 152) rfl) rfl
theorem u_633 : Cond.fieldLink "PromiseDesk" 391 "PromiseDesk$Combination" "sort" "I" ∈ Tw := Tw_3 (List.mem_of_getElem? (i := 153) rfl) rfl
theorem u_634 : Cond.fieldLink "PromiseDesk$Combination" 13 "PromiseDesk$Combination" "values" "[I" ∈ Tw := Tw_3 (List.mem_of_getElem? (i := 154) rfl) rfl
theorem u_635 : Cond.fieldLink "PromiseDesk$Element" 35 "PromiseDesk$Combination" "values" "[I" ∈ Tw := Tw_3 (List.mem_of_getElem? (i := 155) rfl) rfl
theorem u_636 : Cond.fieldLink "PromiseDesk" 400 "PromiseDesk$Combination" "values" "[I" ∈ Tw := Tw_3 (List.mem_of_getElem? (i := 156) rfl) rfl
theorem u_637 : Cond.fieldLink "PromiseDesk$Combination" 17 "PromiseDesk$Combination" "capability" "LPromiseDesk$Resolvers;" ∈ Tw := Tw_3 (List.mem_of_getElem? (i := 157) rfl) rfl
theorem u_638 : Cond.fieldLink "PromiseDesk" 399 "PromiseDesk$Combination" "capability" "LPromiseDesk$Resolvers;" ∈ Tw := Tw_3 (List.mem_of_getElem? (i := 158) rfl) rfl
theorem u_639 : Cond.fieldLink "PromiseDesk$Combination" 21 "PromiseDesk$Combination" "remaining" "I" ∈ Tw := Tw_3 (List.mem_of_getElem? (i := 159) rfl) rfl
theorem u_640 : Cond.fieldLink "PromiseDesk$Element" 39 "PromiseDesk$Combination" "remaining" "I" ∈ Tw := Tw_3 (List.mem_of_getElem? (i := 160) rfl) rfl
theorem u_641 : Cond.laysFinal "PromiseDesk$Combination" "PromiseDesk$Combination" "sort" "I" ∈ Tw := Tw_3 (List.mem_of_getElem? (i := 161) rfl) rfl
theorem u_642 : Cond.soleField "PromiseDesk$Combination" "sort" ∈ Tw := Tw_3 (List.mem_of_getElem? (i := 162) rfl) rfl
theorem u_643 : Cond.laysFinal "PromiseDesk$Combination" "PromiseDesk$Combination" "values" "[I" ∈ Tw := Tw_3 (List.mem_of_getElem? (i := 163) rfl) rfl
theorem u_644 : Cond.soleField "PromiseDesk$Combination" "values" ∈ Tw := Tw_3 (List.mem_of_getElem? (i := 164) rfl) rfl
theorem u_645 : Cond.laysFinal "PromiseDesk$Combination" "PromiseDesk$Combination" "capability" "LPromiseDesk$Resolvers;" ∈ Tw := Tw_3 (List.mem_of_getElem? (i := 165) rfl) rfl
theorem u_646 : Cond.soleField "PromiseDesk$Combination" "capability" ∈ Tw := Tw_3 (List.mem_of_getElem? (i := 166) rfl) rfl
theorem u_647 : Cond.lays "PromiseDesk$Combination" "PromiseDesk$Combination" "remaining" "I" ∈ Tw := Tw_3 (List.mem_of_getElem? (i := 167) rfl) rfl
theorem u_648 : Cond.soleField "PromiseDesk$Combination" "remaining" ∈ Tw := Tw_3 (List.mem_of_getElem? (i := 168) rfl) rfl
theorem u_649 : Cond.superclass "PromiseDesk$Combination" "java/lang/Object" ∈ Tw := Tw_3 (List.mem_of_getElem? (i := 169) rfl) rfl
theorem u_650 : Cond.methodLink "PromiseDesk" 149 yX11_onFulfilled ∈ Tw := Tw_3 (List.mem_of_getElem? (i := 170) rfl) rfl
theorem u_652 : Cond.instanceMethod yX11_onFulfilled ∈ Tw := Tw_3 (List.mem_of_getElem? (i := 172) rfl) rfl
theorem u_653 : Cond.code yX11_onFulfilled prog_1_method_53_code 3 (Option.some (FieldType.object "PromiseDesk$Function")) ∈ Tw := Tw_3 (List.mem_of_getElem? (i := 173) rfl) rfl
theorem u_654 : Cond.classLink "PromiseDesk" 394 "PromiseDesk$Element" ∈ Tw := Tw_3 (List.mem_of_getElem? (i := 174) rfl) rfl
theorem u_655 : Cond.instantiable "PromiseDesk$Element" 3 ∈ Tw := Tw_3 (List.mem_of_getElem? (i := 175) rfl) rfl
theorem u_656 : Cond.methodLink "PromiseDesk" 396 yX2_init ∈ Tw := Tw_3 (List.mem_of_getElem? (i := 176) rfl) rfl
theorem u_657 : Cond.instanceMethod yX2_init ∈ Tw := Tw_3 (List.mem_of_getElem? (i := 177) rfl) rfl
theorem u_658 : Cond.code yX2_init prog_4_method_1_code 4 (Option.none : Option FieldType) ∈ Tw := Tw_3 (List.mem_of_getElem? (i := 178) rfl) rfl
theorem u_660 : Cond.fieldLink "PromiseDesk$Element" 9 "PromiseDesk$Element" "combination" "LPromiseDesk$Combination;" ∈ Tw := Tw_3 (List.mem_of_getElem? (i := 180) rfl) rfl
theorem u_661 : Cond.fieldLink "PromiseDesk$Element" 15 "PromiseDesk$Element" "index" "I" ∈ Tw := Tw_3 (List.mem_of_getElem? (i := 181) rfl) rfl
theorem u_662 : Cond.fieldLink "PromiseDesk$Element" 19 "PromiseDesk$Element" "rejects" "Z" ∈ Tw := Tw_3 (List.mem_of_getElem? (i := 182) rfl) rfl
theorem u_663 : Cond.laysFinal "PromiseDesk$Element" "PromiseDesk$Element" "combination" "LPromiseDesk$Combination;" ∈ Tw := Tw_3 (List.mem_of_getElem? (i := 183) rfl) rfl
theorem u_664 : Cond.soleField "PromiseDesk$Element" "combination" ∈ Tw := Tw_3 (List.mem_of_getElem? (i := 184) rfl) rfl
theorem u_665 : Cond.laysFinal "PromiseDesk$Element" "PromiseDesk$Element" "index" "I" ∈ Tw := Tw_3 (List.mem_of_getElem? (i := 185) rfl) rfl
theorem u_666 : Cond.soleField "PromiseDesk$Element" "index" ∈ Tw := Tw_3 (List.mem_of_getElem? (i := 186) rfl) rfl
theorem u_667 : Cond.laysFinal "PromiseDesk$Element" "PromiseDesk$Element" "rejects" "Z" ∈ Tw := Tw_3 (List.mem_of_getElem? (i := 187) rfl) rfl
theorem u_668 : Cond.soleField "PromiseDesk$Element" "rejects" ∈ Tw := Tw_3 (List.mem_of_getElem? (i := 188) rfl) rfl
theorem u_669 : Cond.superclass "PromiseDesk$Element" "PromiseDesk$Function" ∈ Tw := Tw_3 (List.mem_of_getElem? (i := 189) rfl) rfl
theorem u_670 : Cond.methodLink "PromiseDesk" 330 yX8_resolving ∈ Tw := Tw_3 (List.mem_of_getElem? (i := 190) rfl) rfl
theorem u_671 : Cond.static yX8_resolving ∈ Tw := Tw_3 (List.mem_of_getElem? (i := 191) rfl) rfl
theorem u_672 : Cond.code yX8_resolving prog_10_method_2_code 1 (Option.some (FieldType.object "PromiseDesk$Simple")) ∈ Tw := Tw_3 (List.mem_of_getElem? (i := 192) rfl) rfl
theorem u_673 : Cond.classLink "PromiseDesk$Simple" 10 "PromiseDesk$Simple" ∈ Tw := Tw_3 (List.mem_of_getElem? (i := 193) rfl) rfl
theorem u_674 : Cond.methodLink "PromiseDesk$Simple" 25 yX8_init ∈ Tw := Tw_3 (List.mem_of_getElem? (i := 194) rfl) rfl
theorem u_675 : Cond.methodLink "PromiseDesk" 153 yX11_onRejected ∈ Tw := Tw_3 (List.mem_of_getElem? (i := 195) rfl) rfl
theorem u_677 : Cond.instanceMethod yX11_onRejected ∈ Tw := Tw_3 (List.mem_of_getElem? (i := 197) rfl) rfl
theorem u_678 : Cond.code yX11_onRejected prog_1_method_54_code 3 (Option.some (FieldType.object "PromiseDesk$Function")) ∈ Tw := Tw_3 (List.mem_of_getElem? (i := 198) rfl) rfl
theorem u_679 : Cond.methodLink "PromiseDesk" 334 yX8_rejecting ∈ Tw := Tw_3 (List.mem_of_getElem? (i := 199) rfl) rfl
theorem u_680 : Cond.static yX8_rejecting ∈ Tw := Tw_3 (List.mem_of_getElem? (i := 200) rfl) rfl
theorem u_681 : Cond.code yX8_rejecting prog_10_method_3_code 1 (Option.some (FieldType.object "PromiseDesk$Simple")) ∈ Tw := Tw_3 (List.mem_of_getElem? (i := 201) rfl) rfl
theorem u_682 : Cond.methodLink "PromiseDesk" 156 yX11_complete ∈ Tw := Tw_3 (List.mem_of_getElem? (i := 202) rfl) rfl
theorem u_684 : Cond.instanceMethod yX11_complete ∈ Tw := Tw_3 (List.mem_of_getElem? (i := 204) rfl) rfl
theorem u_685 : Cond.code yX11_complete prog_1_method_55_code 3 (Option.none : Option FieldType) ∈ Tw := Tw_3 (List.mem_of_getElem? (i := 205) rfl) rfl
theorem u_686 : Cond.methodLink "PromiseDeskLaw" 122 yL_async ∈ Tw := Tw_3 (List.mem_of_getElem? (i := 206) rfl) rfl
theorem u_687 : Cond.static yL_async ∈ Tw := Tw_3 (List.mem_of_getElem? (i := 207) rfl) rfl
theorem u_688 : Cond.codeWith yL_async method_14_code 5 (Option.some FieldType.int) [(0, 10, 13, 19), (0, 10, 17, 13)] ∈ Tw := Tw_3 (List.mem_of_getElem? (i := 208) rfl) rfl
theorem u_689 : Cond.methodLink "PromiseDeskLaw" 53 yX11_async ∈ Tw := Tw_3 (List.mem_of_getElem? (i := 209) rfl) rfl
theorem u_690 : Cond.instanceMethod yX11_async ∈ Tw := Tw_3 (List.mem_of_getElem? (i := 210) rfl) rfl
theorem u_691 : Cond.selects "PromiseDesk" yX11_async yX11_async ∈ Tw := Tw_3 (List.mem_of_getElem? (i := 211) rfl) rfl
theorem u_692 : Cond.code yX11_async prog_1_method_13_code 5 (Option.some FieldType.int) ∈ Tw := Tw_3 (List.mem_of_getElem? (i := 212) rfl) rfl
theorem u_693 : Cond.classLink "PromiseDesk" 160 "PromiseDesk$AsyncRun" ∈ Tw := Tw_3 (List.mem_of_getElem? (i := 213) rfl) rfl
theorem u_694 : Cond.instantiable "PromiseDesk$AsyncRun" 5 ∈ Tw := Tw_3 (List.mem_of_getElem? (i := 214) rfl) rfl
theorem u_695 : Cond.methodLink "PromiseDesk" 162 yX0_init ∈ Tw := Tw_3 (List.mem_of_getElem? (i := 215) rfl) rfl
theorem u_696 : Cond.instanceMethod yX0_init ∈ Tw := Tw_3 (List.mem_of_getElem? (i := 216) rfl) rfl
theorem u_697 : Cond.code yX0_init prog_2_method_1_code 5 (Option.none : Option FieldType) ∈ Tw := Tw_3 (List.mem_of_getElem? (i := 217) rfl) rfl
theorem u_698 : Cond.methodLink "PromiseDesk$AsyncRun" 1 ⟨"java/lang/Object", "<init>", "()V"⟩ ∈ Tw := Tw_3 (List.mem_of_getElem? (i := 218) rfl) rfl
theorem u_699 : Cond.fieldLink "PromiseDesk$AsyncRun" 7 "PromiseDesk$AsyncRun" "awaited" "[I" ∈ Tw := Tw_3 (List.mem_of_getElem? (i := 219) rfl) rfl
theorem u_700 : Cond.fieldLink "PromiseDesk" 374 "PromiseDesk$AsyncRun" "awaited" "[I" ∈ Tw := Tw_3 (List.mem_of_getElem? (i := 220) rfl) rfl
theorem u_701 : Cond.fieldLink "PromiseDesk$AsyncRun" 13 "PromiseDesk$AsyncRun" "handler" "LPromiseDesk$Simple;" ∈ Tw := Tw_3 (List.mem_of_getElem? (i := 221) rfl) rfl
theorem u_702 : Cond.fieldLink "PromiseDesk" 366 "PromiseDesk$AsyncRun" "handler" "LPromiseDesk$Simple;" ∈ Tw := Tw_3 (List.mem_of_getElem? (i := 222) rfl) rfl
theorem u_703 : Cond.fieldLink "PromiseDesk$AsyncRun" 17 "PromiseDesk$AsyncRun" "end" "I" ∈ Tw := Tw_3 (List.mem_of_getElem? (i := 223) rfl) rfl
theorem u_704 : Cond.fieldLink "PromiseDesk" 377 "PromiseDesk$AsyncRun" "end" "I" ∈ Tw := Tw_3 (List.mem_of_getElem? (i := 224) rfl) rfl
theorem u_705 : Cond.fieldLink "PromiseDesk$AsyncRun" 21 "PromiseDesk$AsyncRun" "capability" "LPromiseDesk$Resolvers;" ∈ Tw := Tw_3 (List.mem_of_getElem? (i := 225) rfl) rfl
theorem u_706 : Cond.fieldLink "PromiseDesk" 371 "PromiseDesk$AsyncRun" "capability" "LPromiseDesk$Resolvers;" ∈ Tw := Tw_3 (List.mem_of_getElem? (i := 226) rfl) rfl
theorem u_707 : Cond.fieldLink "PromiseDesk" 372 "PromiseDesk$AsyncRun" "next" "I" ∈ Tw := Tw_3 (List.mem_of_getElem? (i := 227) rfl) rfl
theorem u_708 : Cond.laysFinal "PromiseDesk$AsyncRun" "PromiseDesk$AsyncRun" "awaited" "[I" ∈ Tw := Tw_3 (List.mem_of_getElem? (i := 228) rfl) rfl
theorem u_709 : Cond.soleField "PromiseDesk$AsyncRun" "awaited" ∈ Tw := Tw_3 (List.mem_of_getElem? (i := 229) rfl) rfl
theorem u_710 : Cond.laysFinal "PromiseDesk$AsyncRun" "PromiseDesk$AsyncRun" "handler" "LPromiseDesk$Simple;" ∈ Tw := Tw_3 (List.mem_of_getElem? (i := 230) rfl) rfl
theorem u_711 : Cond.soleField "PromiseDesk$AsyncRun" "handler" ∈ Tw := Tw_3 (List.mem_of_getElem? (i := 231) rfl) rfl
theorem u_712 : Cond.laysFinal "PromiseDesk$AsyncRun" "PromiseDesk$AsyncRun" "end" "I" ∈ Tw := Tw_3 (List.mem_of_getElem? (i := 232) rfl) rfl
theorem u_713 : Cond.soleField "PromiseDesk$AsyncRun" "end" ∈ Tw := Tw_3 (List.mem_of_getElem? (i := 233) rfl) rfl
theorem u_714 : Cond.laysFinal "PromiseDesk$AsyncRun" "PromiseDesk$AsyncRun" "capability" "LPromiseDesk$Resolvers;" ∈ Tw := Tw_3 (List.mem_of_getElem? (i := 234) rfl) rfl
theorem u_715 : Cond.soleField "PromiseDesk$AsyncRun" "capability" ∈ Tw := Tw_3 (List.mem_of_getElem? (i := 235) rfl) rfl
theorem u_716 : Cond.lays "PromiseDesk$AsyncRun" "PromiseDesk$AsyncRun" "next" "I" ∈ Tw := Tw_3 (List.mem_of_getElem? (i := 236) rfl) rfl
theorem u_717 : Cond.soleField "PromiseDesk$AsyncRun" "next" ∈ Tw := Tw_3 (List.mem_of_getElem? (i := 237) rfl) rfl
theorem u_718 : Cond.superclass "PromiseDesk$AsyncRun" "java/lang/Object" ∈ Tw := Tw_3 (List.mem_of_getElem? (i := 238) rfl) rfl
theorem u_719 : Cond.methodLink "PromiseDesk" 165 yX11_advance ∈ Tw := Tw_3 (List.mem_of_getElem? (i := 239) rfl) rfl
theorem u_721 : Cond.instanceMethod yX11_advance ∈ Tw := Tw_4 (List.mem_of_getElem? (i := 1) rfl) rfl
theorem u_722 : Cond.code yX11_advance prog_1_method_50_code 3 (Option.none : Option FieldType) ∈ Tw := Tw_4 (List.mem_of_getElem? (i := 2) rfl) rfl
theorem u_723 : Cond.methodLink "PromiseDesk" 380 yX4_resumption ∈ Tw := Tw_4 (List.mem_of_getElem? (i := 3) rfl) rfl
theorem u_724 : Cond.static yX4_resumption ∈ Tw := Tw_4 (List.mem_of_getElem? (i := 4) rfl) rfl
theorem u_725 : Cond.code yX4_resumption prog_6_method_3_code 1 (Option.some (FieldType.object "PromiseDesk$Job")) ∈ Tw := Tw_4 (List.mem_of_getElem? (i := 5) rfl) rfl
theorem u_726 : Cond.methodLink "PromiseDeskLaw" 125 yL_jobs ∈ Tw := Tw_4 (List.mem_of_getElem? (i := 6) rfl) rfl
theorem u_727 : Cond.static yL_jobs ∈ Tw := Tw_4 (List.mem_of_getElem? (i := 7) rfl) rfl
theorem u_728 : Cond.codeWith yL_jobs method_15_code 4 (Option.some FieldType.int) [(0, 9, 12, 13)] ∈ Tw := Tw_4 (List.mem_of_getElem? (i := 8) rfl) rfl
theorem u_729 : Cond.methodLink "PromiseDeskLaw" 56 yX11_jobs ∈ Tw := Tw_4 (List.mem_of_getElem? (i := 9) rfl) rfl
theorem u_730 : Cond.instanceMethod yX11_jobs ∈ Tw := Tw_4 (List.mem_of_getElem? (i := 10) rfl) rfl
theorem u_731 : Cond.selects "PromiseDesk" yX11_jobs yX11_jobs ∈ Tw := Tw_4 (List.mem_of_getElem? (i := 11) rfl) rfl
theorem u_732 : Cond.code yX11_jobs prog_1_method_14_code 4 (Option.some FieldType.int) ∈ Tw := Tw_4 (List.mem_of_getElem? (i := 12) rfl) rfl
theorem u_733 : Cond.methodLink "PromiseDesk" 173 yX11_requireRoomInLog ∈ Tw := Tw_4 (List.mem_of_getElem? (i := 13) rfl) rfl
theorem u_735 : Cond.instanceMethod yX11_requireRoomInLog ∈ Tw := Tw_4 (List.mem_of_getElem? (i := 15) rfl) rfl
theorem u_736 : Cond.code yX11_requireRoomInLog prog_1_method_30_code 1 (Option.none : Option FieldType) ∈ Tw := Tw_4 (List.mem_of_getElem? (i := 16) rfl) rfl
theorem u_738 : Cond.methodLink "PromiseDesk" 176 yX11_dequeue ∈ Tw := Tw_4 (List.mem_of_getElem? (i := 18) rfl) rfl
theorem u_740 : Cond.instanceMethod yX11_dequeue ∈ Tw := Tw_4 (List.mem_of_getElem? (i := 20) rfl) rfl
theorem u_741 : Cond.code yX11_dequeue prog_1_method_38_code 2 (Option.none : Option FieldType) ∈ Tw := Tw_4 (List.mem_of_getElem? (i := 21) rfl) rfl
theorem u_742 : Cond.methodLink "PromiseDesk" 180 yX11_doJob ∈ Tw := Tw_4 (List.mem_of_getElem? (i := 22) rfl) rfl
theorem u_744 : Cond.instanceMethod yX11_doJob ∈ Tw := Tw_4 (List.mem_of_getElem? (i := 24) rfl) rfl
theorem u_745 : Cond.code yX11_doJob prog_1_method_47_code 6 (Option.none : Option FieldType) ∈ Tw := Tw_4 (List.mem_of_getElem? (i := 25) rfl) rfl
theorem u_746 : Cond.methodLink "PromiseDesk" 319 yX11_hears ∈ Tw := Tw_4 (List.mem_of_getElem? (i := 26) rfl) rfl
theorem u_748 : Cond.instanceMethod yX11_hears ∈ Tw := Tw_4 (List.mem_of_getElem? (i := 28) rfl) rfl
theorem u_749 : Cond.code yX11_hears prog_1_method_49_code 4 (Option.some FieldType.boolean) ∈ Tw := Tw_4 (List.mem_of_getElem? (i := 29) rfl) rfl
theorem u_750 : Cond.methodLink "PromiseDesk" 370 yX8_callIn ∈ Tw := Tw_4 (List.mem_of_getElem? (i := 30) rfl) rfl
theorem u_751 : Cond.instanceMethod yX8_callIn ∈ Tw := Tw_4 (List.mem_of_getElem? (i := 31) rfl) rfl
theorem u_752 : Cond.selects "PromiseDesk$Simple" yX8_callIn yX8_callIn ∈ Tw := Tw_4 (List.mem_of_getElem? (i := 32) rfl) rfl
theorem u_753 : Cond.code yX8_callIn prog_10_method_4_code 3 (Option.some FieldType.int) ∈ Tw := Tw_4 (List.mem_of_getElem? (i := 33) rfl) rfl
theorem u_756 : Cond.instanceMethod yX11_note ∈ Tw := Tw_4 (List.mem_of_getElem? (i := 36) rfl) rfl
theorem u_757 : Cond.code yX11_note prog_1_method_35_code 3 (Option.none : Option FieldType) ∈ Tw := Tw_4 (List.mem_of_getElem? (i := 37) rfl) rfl
theorem u_760 : Cond.methodLink "PromiseDesk" 337 yX11_callThen ∈ Tw := Tw_4 (List.mem_of_getElem? (i := 40) rfl) rfl
theorem u_762 : Cond.instanceMethod yX11_callThen ∈ Tw := Tw_4 (List.mem_of_getElem? (i := 42) rfl) rfl
theorem u_763 : Cond.code yX11_callThen prog_1_method_51_code 3 (Option.none : Option FieldType) ∈ Tw := Tw_4 (List.mem_of_getElem? (i := 43) rfl) rfl
theorem u_764 : Cond.methodLink "PromiseDesk" 384 yX11_note ∈ Tw := Tw_4 (List.mem_of_getElem? (i := 44) rfl) rfl
theorem u_765 : Cond.methodLink "PromiseDesk" 387 yX11_doAct ∈ Tw := Tw_4 (List.mem_of_getElem? (i := 45) rfl) rfl
theorem u_767 : Cond.instanceMethod yX11_doAct ∈ Tw := Tw_4 (List.mem_of_getElem? (i := 47) rfl) rfl
theorem u_768 : Cond.code yX11_doAct prog_1_method_52_code 5 (Option.none : Option FieldType) ∈ Tw := Tw_4 (List.mem_of_getElem? (i := 48) rfl) rfl
theorem u_769 : Cond.methodLink "PromiseDesk" 357 ⟨"PromiseDesk$Function", "callIn", "(LPromiseDesk;I)I"⟩ ∈ Tw := Tw_4 (List.mem_of_getElem? (i := 49) rfl) rfl
theorem u_771 : Cond.sameMethod "PromiseDesk$Function" "PromiseDesk$Function" "callIn" "(LPromiseDesk;I)I" ∈ Tw := Tw_4 (List.mem_of_getElem? (i := 51) rfl) rfl
theorem u_772 : Cond.selects "PromiseDesk$Element" ⟨"PromiseDesk$Function", "callIn", "(LPromiseDesk;I)I"⟩ yX2_callIn ∈ Tw := Tw_4 (List.mem_of_getElem? (i := 52) rfl) rfl
theorem u_773 : Cond.instanceMethod yX2_callIn ∈ Tw := Tw_4 (List.mem_of_getElem? (i := 53) rfl) rfl
theorem u_774 : Cond.code yX2_callIn prog_4_method_2_code 4 (Option.some FieldType.int) ∈ Tw := Tw_4 (List.mem_of_getElem? (i := 54) rfl) rfl
theorem u_777 : Cond.selects "PromiseDesk$Lastly" ⟨"PromiseDesk$Function", "callIn", "(LPromiseDesk;I)I"⟩ yX5_callIn ∈ Tw := Tw_4 (List.mem_of_getElem? (i := 57) rfl) rfl
theorem u_778 : Cond.instanceMethod yX5_callIn ∈ Tw := Tw_4 (List.mem_of_getElem? (i := 58) rfl) rfl
theorem u_779 : Cond.code yX5_callIn prog_7_method_2_code 5 (Option.some FieldType.int) ∈ Tw := Tw_4 (List.mem_of_getElem? (i := 59) rfl) rfl
theorem u_780 : Cond.methodLink "PromiseDesk$Lastly" 19 yX8_callIn ∈ Tw := Tw_4 (List.mem_of_getElem? (i := 60) rfl) rfl
theorem u_782 : Cond.classLink "PromiseDesk$Lastly" 20 "PromiseDesk$Simple" ∈ Tw := Tw_4 (List.mem_of_getElem? (i := 62) rfl) rfl
theorem u_783 : Cond.methodLink "PromiseDesk$Lastly" 33 yX8_init ∈ Tw := Tw_4 (List.mem_of_getElem? (i := 63) rfl) rfl
theorem u_785 : Cond.selects "PromiseDesk$Simple" ⟨"PromiseDesk$Function", "callIn", "(LPromiseDesk;I)I"⟩ yX8_callIn ∈ Tw := Tw_4 (List.mem_of_getElem? (i := 65) rfl) rfl
theorem u_786 : Cond.methodLink "PromiseDesk" 363 yX11_finish ∈ Tw := Tw_4 (List.mem_of_getElem? (i := 66) rfl) rfl
theorem u_788 : Cond.instanceMethod yX11_finish ∈ Tw := Tw_4 (List.mem_of_getElem? (i := 68) rfl) rfl
theorem u_789 : Cond.code yX11_finish prog_1_method_48_code 3 (Option.none : Option FieldType) ∈ Tw := Tw_4 (List.mem_of_getElem? (i := 69) rfl) rfl
theorem u_790 : Cond.methodLink "PromiseDeskLaw" 128 yL_state ∈ Tw := Tw_4 (List.mem_of_getElem? (i := 70) rfl) rfl
theorem u_791 : Cond.static yL_state ∈ Tw := Tw_4 (List.mem_of_getElem? (i := 71) rfl) rfl
theorem u_792 : Cond.codeWith yL_state method_16_code 4 (Option.some FieldType.int) [(0, 9, 12, 19)] ∈ Tw := Tw_4 (List.mem_of_getElem? (i := 72) rfl) rfl
theorem u_793 : Cond.methodLink "PromiseDeskLaw" 59 yX11_state ∈ Tw := Tw_4 (List.mem_of_getElem? (i := 73) rfl) rfl
theorem u_794 : Cond.instanceMethod yX11_state ∈ Tw := Tw_4 (List.mem_of_getElem? (i := 74) rfl) rfl
theorem u_795 : Cond.selects "PromiseDesk" yX11_state yX11_state ∈ Tw := Tw_4 (List.mem_of_getElem? (i := 75) rfl) rfl
theorem u_796 : Cond.code yX11_state prog_1_method_15_code 3 (Option.some FieldType.int) ∈ Tw := Tw_4 (List.mem_of_getElem? (i := 76) rfl) rfl
theorem u_797 : Cond.methodLink "PromiseDeskLaw" 131 yL_result ∈ Tw := Tw_4 (List.mem_of_getElem? (i := 77) rfl) rfl
theorem u_798 : Cond.static yL_result ∈ Tw := Tw_4 (List.mem_of_getElem? (i := 78) rfl) rfl
theorem u_799 : Cond.codeWith yL_result method_17_code 4 (Option.some FieldType.int) [(0, 9, 12, 19)] ∈ Tw := Tw_4 (List.mem_of_getElem? (i := 79) rfl) rfl
theorem u_800 : Cond.methodLink "PromiseDeskLaw" 62 yX11_result ∈ Tw := Tw_4 (List.mem_of_getElem? (i := 80) rfl) rfl
theorem u_801 : Cond.instanceMethod yX11_result ∈ Tw := Tw_4 (List.mem_of_getElem? (i := 81) rfl) rfl
theorem u_802 : Cond.selects "PromiseDesk" yX11_result yX11_result ∈ Tw := Tw_4 (List.mem_of_getElem? (i := 82) rfl) rfl
theorem u_803 : Cond.code yX11_result prog_1_method_16_code 2 (Option.some FieldType.int) ∈ Tw := Tw_4 (List.mem_of_getElem? (i := 83) rfl) rfl
theorem u_804 : Cond.methodLink "PromiseDeskLaw" 134 yL_kind ∈ Tw := Tw_4 (List.mem_of_getElem? (i := 84) rfl) rfl
theorem u_805 : Cond.static yL_kind ∈ Tw := Tw_4 (List.mem_of_getElem? (i := 85) rfl) rfl
theorem u_806 : Cond.codeWith yL_kind method_18_code 4 (Option.some FieldType.int) [(0, 9, 12, 19)] ∈ Tw := Tw_4 (List.mem_of_getElem? (i := 86) rfl) rfl
theorem u_807 : Cond.methodLink "PromiseDeskLaw" 65 yX11_kind ∈ Tw := Tw_4 (List.mem_of_getElem? (i := 87) rfl) rfl
theorem u_808 : Cond.instanceMethod yX11_kind ∈ Tw := Tw_4 (List.mem_of_getElem? (i := 88) rfl) rfl
theorem u_809 : Cond.selects "PromiseDesk" yX11_kind yX11_kind ∈ Tw := Tw_4 (List.mem_of_getElem? (i := 89) rfl) rfl
theorem u_810 : Cond.code yX11_kind prog_1_method_17_code 2 (Option.some FieldType.int) ∈ Tw := Tw_4 (List.mem_of_getElem? (i := 90) rfl) rfl
theorem u_811 : Cond.methodLink "PromiseDesk" 193 yX11_requireThing ∈ Tw := Tw_4 (List.mem_of_getElem? (i := 91) rfl) rfl
theorem u_813 : Cond.instanceMethod yX11_requireThing ∈ Tw := Tw_4 (List.mem_of_getElem? (i := 93) rfl) rfl
theorem u_814 : Cond.code yX11_requireThing prog_1_method_23_code 3 (Option.some (FieldType.object "PromiseDesk$Thing")) ∈ Tw := Tw_4 (List.mem_of_getElem? (i := 94) rfl) rfl
theorem u_816 : Cond.methodLink "PromiseDeskLaw" 137 yL_part ∈ Tw := Tw_4 (List.mem_of_getElem? (i := 96) rfl) rfl
theorem u_817 : Cond.static yL_part ∈ Tw := Tw_4 (List.mem_of_getElem? (i := 97) rfl) rfl
theorem u_818 : Cond.codeWith yL_part method_19_code 5 (Option.some FieldType.int) [(0, 10, 13, 19)] ∈ Tw := Tw_4 (List.mem_of_getElem? (i := 98) rfl) rfl
theorem u_819 : Cond.methodLink "PromiseDeskLaw" 68 yX11_part ∈ Tw := Tw_4 (List.mem_of_getElem? (i := 99) rfl) rfl
theorem u_820 : Cond.instanceMethod yX11_part ∈ Tw := Tw_4 (List.mem_of_getElem? (i := 100) rfl) rfl
theorem u_821 : Cond.selects "PromiseDesk" yX11_part yX11_part ∈ Tw := Tw_4 (List.mem_of_getElem? (i := 101) rfl) rfl
theorem u_822 : Cond.code yX11_part prog_1_method_18_code 4 (Option.some FieldType.int) ∈ Tw := Tw_4 (List.mem_of_getElem? (i := 102) rfl) rfl
theorem u_823 : Cond.methodLink "PromiseDesk" 202 yX11_requireParts ∈ Tw := Tw_4 (List.mem_of_getElem? (i := 103) rfl) rfl
theorem u_825 : Cond.instanceMethod yX11_requireParts ∈ Tw := Tw_4 (List.mem_of_getElem? (i := 105) rfl) rfl
theorem u_826 : Cond.code yX11_requireParts prog_1_method_28_code 3 (Option.some (FieldType.array FieldType.int)) ∈ Tw := Tw_4 (List.mem_of_getElem? (i := 106) rfl) rfl
theorem u_828 : Cond.methodLink "PromiseDeskLaw" 145 yL_count ∈ Tw := Tw_4 (List.mem_of_getElem? (i := 108) rfl) rfl
theorem u_829 : Cond.static yL_count ∈ Tw := Tw_4 (List.mem_of_getElem? (i := 109) rfl) rfl
theorem u_830 : Cond.codeWith yL_count method_20_code 4 (Option.some FieldType.int) [(0, 9, 12, 19)] ∈ Tw := Tw_4 (List.mem_of_getElem? (i := 110) rfl) rfl
theorem u_831 : Cond.methodLink "PromiseDeskLaw" 71 yX11_count ∈ Tw := Tw_4 (List.mem_of_getElem? (i := 111) rfl) rfl
theorem u_832 : Cond.instanceMethod yX11_count ∈ Tw := Tw_4 (List.mem_of_getElem? (i := 112) rfl) rfl
theorem u_833 : Cond.selects "PromiseDesk" yX11_count yX11_count ∈ Tw := Tw_4 (List.mem_of_getElem? (i := 113) rfl) rfl
theorem u_834 : Cond.code yX11_count prog_1_method_20_code 2 (Option.some FieldType.int) ∈ Tw := Tw_4 (List.mem_of_getElem? (i := 114) rfl) rfl
theorem u_836 : Cond.classLink "PromiseDeskLaw" 75 "PromiseDeskModel" ∈ Tw := Tw_4 (List.mem_of_getElem? (i := 116) rfl) rfl
theorem u_837 : Cond.instantiable "PromiseDeskModel" 52 ∈ Tw := Tw_4 (List.mem_of_getElem? (i := 117) rfl) rfl
theorem u_838 : Cond.methodLink "PromiseDeskLaw" 77 yX12_init ∈ Tw := Tw_4 (List.mem_of_getElem? (i := 118) rfl) rfl
theorem u_839 : Cond.instanceMethod yX12_init ∈ Tw := Tw_4 (List.mem_of_getElem? (i := 119) rfl) rfl
theorem u_840 : Cond.code yX12_init prog_14_method_1_code 1 (Option.none : Option FieldType) ∈ Tw := Tw_4 (List.mem_of_getElem? (i := 120) rfl) rfl
theorem u_841 : Cond.methodLink "PromiseDeskModel" 1 ⟨"java/lang/Object", "<init>", "()V"⟩ ∈ Tw := Tw_4 (List.mem_of_getElem? (i := 121) rfl) rfl
theorem u_842 : Cond.fieldLink "PromiseDeskModel" 131 "PromiseDeskModel" "thrown" "I" ∈ Tw := Tw_4 (List.mem_of_getElem? (i := 122) rfl) rfl
theorem u_843 : Cond.fieldLink "PromiseDeskModel" 135 "PromiseDeskModel" "objects" "I" ∈ Tw := Tw_4 (List.mem_of_getElem? (i := 123) rfl) rfl
theorem u_844 : Cond.fieldLink "PromiseDeskModel" 7 "PromiseDeskModel" "kind" "[I" ∈ Tw := Tw_4 (List.mem_of_getElem? (i := 124) rfl) rfl
theorem u_845 : Cond.fieldLink "PromiseDeskModel" 13 "PromiseDeskModel" "state" "[I" ∈ Tw := Tw_4 (List.mem_of_getElem? (i := 125) rfl) rfl
theorem u_846 : Cond.fieldLink "PromiseDeskModel" 16 "PromiseDeskModel" "result" "[I" ∈ Tw := Tw_4 (List.mem_of_getElem? (i := 126) rfl) rfl
theorem u_847 : Cond.fieldLink "PromiseDeskModel" 19 "PromiseDeskModel" "reactions" "[I" ∈ Tw := Tw_4 (List.mem_of_getElem? (i := 127) rfl) rfl
theorem u_848 : Cond.fieldLink "PromiseDeskModel" 22 "PromiseDeskModel" "kept" "[I" ∈ Tw := Tw_4 (List.mem_of_getElem? (i := 128) rfl) rfl
theorem u_849 : Cond.fieldLink "PromiseDeskModel" 25 "PromiseDeskModel" "handled" "[Z" ∈ Tw := Tw_4 (List.mem_of_getElem? (i := 129) rfl) rfl
theorem u_850 : Cond.fieldLink "PromiseDeskModel" 29 "PromiseDeskModel" "dataA" "[I" ∈ Tw := Tw_4 (List.mem_of_getElem? (i := 130) rfl) rfl
theorem u_851 : Cond.fieldLink "PromiseDeskModel" 32 "PromiseDeskModel" "dataB" "[I" ∈ Tw := Tw_4 (List.mem_of_getElem? (i := 131) rfl) rfl
theorem u_852 : Cond.fieldLink "PromiseDeskModel" 35 "PromiseDeskModel" "dataC" "[I" ∈ Tw := Tw_4 (List.mem_of_getElem? (i := 132) rfl) rfl
theorem u_853 : Cond.fieldLink "PromiseDeskModel" 38 "PromiseDeskModel" "dataD" "[I" ∈ Tw := Tw_4 (List.mem_of_getElem? (i := 133) rfl) rfl
theorem u_854 : Cond.fieldLink "PromiseDeskModel" 41 "PromiseDeskModel" "dataE" "[I" ∈ Tw := Tw_4 (List.mem_of_getElem? (i := 134) rfl) rfl
theorem u_855 : Cond.fieldLink "PromiseDeskModel" 44 "PromiseDeskModel" "recordPromise" "[I" ∈ Tw := Tw_4 (List.mem_of_getElem? (i := 135) rfl) rfl
theorem u_856 : Cond.fieldLink "PromiseDeskModel" 47 "PromiseDeskModel" "recordDone" "[Z" ∈ Tw := Tw_4 (List.mem_of_getElem? (i := 136) rfl) rfl
theorem u_857 : Cond.fieldLink "PromiseDeskModel" 145 "PromiseDeskModel" "records" "I" ∈ Tw := Tw_4 (List.mem_of_getElem? (i := 137) rfl) rfl
theorem u_858 : Cond.fieldLink "PromiseDeskModel" 50 "PromiseDeskModel" "reactionNext" "[I" ∈ Tw := Tw_4 (List.mem_of_getElem? (i := 138) rfl) rfl
theorem u_859 : Cond.fieldLink "PromiseDeskModel" 53 "PromiseDeskModel" "reactionTo" "[I" ∈ Tw := Tw_4 (List.mem_of_getElem? (i := 139) rfl) rfl
theorem u_860 : Cond.fieldLink "PromiseDeskModel" 56 "PromiseDeskModel" "yesKind" "[I" ∈ Tw := Tw_4 (List.mem_of_getElem? (i := 140) rfl) rfl
theorem u_861 : Cond.fieldLink "PromiseDeskModel" 59 "PromiseDeskModel" "yesOf" "[I" ∈ Tw := Tw_4 (List.mem_of_getElem? (i := 141) rfl) rfl
theorem u_862 : Cond.fieldLink "PromiseDeskModel" 62 "PromiseDeskModel" "noKind" "[I" ∈ Tw := Tw_4 (List.mem_of_getElem? (i := 142) rfl) rfl
theorem u_863 : Cond.fieldLink "PromiseDeskModel" 65 "PromiseDeskModel" "noOf" "[I" ∈ Tw := Tw_4 (List.mem_of_getElem? (i := 143) rfl) rfl
theorem u_864 : Cond.fieldLink "PromiseDeskModel" 168 "PromiseDeskModel" "reactionMany" "I" ∈ Tw := Tw_4 (List.mem_of_getElem? (i := 144) rfl) rfl
theorem u_865 : Cond.fieldLink "PromiseDeskModel" 68 "PromiseDeskModel" "jobKind" "[I" ∈ Tw := Tw_4 (List.mem_of_getElem? (i := 145) rfl) rfl
theorem u_866 : Cond.fieldLink "PromiseDeskModel" 71 "PromiseDeskModel" "jobOf" "[I" ∈ Tw := Tw_4 (List.mem_of_getElem? (i := 146) rfl) rfl
theorem u_867 : Cond.fieldLink "PromiseDeskModel" 74 "PromiseDeskModel" "jobTo" "[I" ∈ Tw := Tw_4 (List.mem_of_getElem? (i := 147) rfl) rfl
theorem u_868 : Cond.fieldLink "PromiseDeskModel" 77 "PromiseDeskModel" "jobArgument" "[I" ∈ Tw := Tw_4 (List.mem_of_getElem? (i := 148) rfl) rfl
theorem u_869 : Cond.fieldLink "PromiseDeskModel" 80 "PromiseDeskModel" "jobRejects" "[Z" ∈ Tw := Tw_4 (List.mem_of_getElem? (i := 149) rfl) rfl
theorem u_870 : Cond.fieldLink "PromiseDeskModel" 83 "PromiseDeskModel" "jobThen" "[Z" ∈ Tw := Tw_4 (List.mem_of_getElem? (i := 150) rfl) rfl
theorem u_871 : Cond.fieldLink "PromiseDeskModel" 231 "PromiseDeskModel" "jobFirst" "I" ∈ Tw := Tw_4 (List.mem_of_getElem? (i := 151) rfl) rfl
theorem u_872 : Cond.fieldLink "PromiseDeskModel" 162 "PromiseDeskModel" "jobEnd" "I" ∈ Tw := Tw_4 (List.mem_of_getElem? (i := 152) rfl) rfl
theorem u_873 : Cond.fieldLink "PromiseDeskModel" 86 "PromiseDeskModel" "act" "[I" ∈ Tw := Tw_4 (List.mem_of_getElem? (i := 153) rfl) rfl
theorem u_874 : Cond.fieldLink "PromiseDeskModel" 89 "PromiseDeskModel" "actValue" "[I" ∈ Tw := Tw_4 (List.mem_of_getElem? (i := 154) rfl) rfl
theorem u_875 : Cond.fieldLink "PromiseDeskModel" 142 "PromiseDeskModel" "handlers" "I" ∈ Tw := Tw_4 (List.mem_of_getElem? (i := 155) rfl) rfl
theorem u_876 : Cond.fieldLink "PromiseDeskModel" 92 "PromiseDeskModel" "logWho" "[I" ∈ Tw := Tw_4 (List.mem_of_getElem? (i := 156) rfl) rfl
theorem u_877 : Cond.fieldLink "PromiseDeskModel" 95 "PromiseDeskModel" "logWhat" "[I" ∈ Tw := Tw_4 (List.mem_of_getElem? (i := 157) rfl) rfl
theorem u_878 : Cond.fieldLink "PromiseDeskModel" 187 "PromiseDeskModel" "logs" "I" ∈ Tw := Tw_4 (List.mem_of_getElem? (i := 158) rfl) rfl
theorem u_879 : Cond.fieldLink "PromiseDeskModel" 98 "PromiseDeskModel" "list" "[I" ∈ Tw := Tw_4 (List.mem_of_getElem? (i := 159) rfl) rfl
theorem u_880 : Cond.fieldLink "PromiseDeskModel" 251 "PromiseDeskModel" "listed" "I" ∈ Tw := Tw_4 (List.mem_of_getElem? (i := 160) rfl) rfl
theorem u_881 : Cond.fieldLink "PromiseDeskModel" 101 "PromiseDeskModel" "value" "[I" ∈ Tw := Tw_4 (List.mem_of_getElem? (i := 161) rfl) rfl
theorem u_882 : Cond.fieldLink "PromiseDeskModel" 104 "PromiseDeskModel" "elementOf" "[I" ∈ Tw := Tw_4 (List.mem_of_getElem? (i := 162) rfl) rfl
theorem u_883 : Cond.fieldLink "PromiseDeskModel" 107 "PromiseDeskModel" "elementDone" "[Z" ∈ Tw := Tw_4 (List.mem_of_getElem? (i := 163) rfl) rfl
theorem u_884 : Cond.fieldLink "PromiseDeskModel" 217 "PromiseDeskModel" "values" "I" ∈ Tw := Tw_4 (List.mem_of_getElem? (i := 164) rfl) rfl
theorem u_885 : Cond.fieldLink "PromiseDeskModel" 110 "PromiseDeskModel" "from" "[I" ∈ Tw := Tw_4 (List.mem_of_getElem? (i := 165) rfl) rfl
theorem u_886 : Cond.fieldLink "PromiseDeskModel" 113 "PromiseDeskModel" "many" "[I" ∈ Tw := Tw_4 (List.mem_of_getElem? (i := 166) rfl) rfl
theorem u_887 : Cond.fieldLink "PromiseDeskModel" 116 "PromiseDeskModel" "left" "[I" ∈ Tw := Tw_4 (List.mem_of_getElem? (i := 167) rfl) rfl
theorem u_888 : Cond.fieldLink "PromiseDeskModel" 119 "PromiseDeskModel" "to" "[I" ∈ Tw := Tw_4 (List.mem_of_getElem? (i := 168) rfl) rfl
theorem u_889 : Cond.fieldLink "PromiseDeskModel" 122 "PromiseDeskModel" "end" "[I" ∈ Tw := Tw_4 (List.mem_of_getElem? (i := 169) rfl) rfl
theorem u_890 : Cond.fieldLink "PromiseDeskModel" 125 "PromiseDeskModel" "calls" "[I" ∈ Tw := Tw_4 (List.mem_of_getElem? (i := 170) rfl) rfl
theorem u_891 : Cond.fieldLink "PromiseDeskModel" 128 "PromiseDeskModel" "at" "[I" ∈ Tw := Tw_4 (List.mem_of_getElem? (i := 171) rfl) rfl
theorem u_892 : Cond.fieldLink "PromiseDeskModel" 248 "PromiseDeskModel" "groups" "I" ∈ Tw := Tw_4 (List.mem_of_getElem? (i := 172) rfl) rfl
theorem u_893 : Cond.fieldLink "PromiseDeskModel" 193 "PromiseDeskModel" "threw" "Z" ∈ Tw := Tw_4 (List.mem_of_getElem? (i := 173) rfl) rfl
theorem u_894 : Cond.lays "PromiseDeskModel" "PromiseDeskModel" "thrown" "I" ∈ Tw := Tw_4 (List.mem_of_getElem? (i := 174) rfl) rfl
theorem u_895 : Cond.soleField "PromiseDeskModel" "thrown" ∈ Tw := Tw_4 (List.mem_of_getElem? (i := 175) rfl) rfl
theorem u_896 : Cond.lays "PromiseDeskModel" "PromiseDeskModel" "objects" "I" ∈ Tw := Tw_4 (List.mem_of_getElem? (i := 176) rfl) rfl
theorem u_897 : Cond.soleField "PromiseDeskModel" "objects" ∈ Tw := Tw_4 (List.mem_of_getElem? (i := 177) rfl) rfl
theorem u_898 : Cond.laysFinal "PromiseDeskModel" "PromiseDeskModel" "kind" "[I" ∈ Tw := Tw_4 (List.mem_of_getElem? (i := 178) rfl) rfl
theorem u_899 : Cond.soleField "PromiseDeskModel" "kind" ∈ Tw := Tw_4 (List.mem_of_getElem? (i := 179) rfl) rfl
theorem u_900 : Cond.laysFinal "PromiseDeskModel" "PromiseDeskModel" "state" "[I" ∈ Tw := Tw_4 (List.mem_of_getElem? (i := 180) rfl) rfl
theorem u_901 : Cond.soleField "PromiseDeskModel" "state" ∈ Tw := Tw_4 (List.mem_of_getElem? (i := 181) rfl) rfl
theorem u_902 : Cond.laysFinal "PromiseDeskModel" "PromiseDeskModel" "result" "[I" ∈ Tw := Tw_4 (List.mem_of_getElem? (i := 182) rfl) rfl
theorem u_903 : Cond.soleField "PromiseDeskModel" "result" ∈ Tw := Tw_4 (List.mem_of_getElem? (i := 183) rfl) rfl
theorem u_904 : Cond.laysFinal "PromiseDeskModel" "PromiseDeskModel" "reactions" "[I" ∈ Tw := Tw_4 (List.mem_of_getElem? (i := 184) rfl) rfl
theorem u_905 : Cond.soleField "PromiseDeskModel" "reactions" ∈ Tw := Tw_4 (List.mem_of_getElem? (i := 185) rfl) rfl
theorem u_906 : Cond.laysFinal "PromiseDeskModel" "PromiseDeskModel" "kept" "[I" ∈ Tw := Tw_4 (List.mem_of_getElem? (i := 186) rfl) rfl
theorem u_907 : Cond.soleField "PromiseDeskModel" "kept" ∈ Tw := Tw_4 (List.mem_of_getElem? (i := 187) rfl) rfl
theorem u_908 : Cond.laysFinal "PromiseDeskModel" "PromiseDeskModel" "handled" "[Z" ∈ Tw := Tw_4 (List.mem_of_getElem? (i := 188) rfl) rfl
theorem u_909 : Cond.soleField "PromiseDeskModel" "handled" ∈ Tw := Tw_4 (List.mem_of_getElem? (i := 189) rfl) rfl
theorem u_910 : Cond.laysFinal "PromiseDeskModel" "PromiseDeskModel" "dataA" "[I" ∈ Tw := Tw_4 (List.mem_of_getElem? (i := 190) rfl) rfl
theorem u_911 : Cond.soleField "PromiseDeskModel" "dataA" ∈ Tw := Tw_4 (List.mem_of_getElem? (i := 191) rfl) rfl
theorem u_912 : Cond.laysFinal "PromiseDeskModel" "PromiseDeskModel" "dataB" "[I" ∈ Tw := Tw_4 (List.mem_of_getElem? (i := 192) rfl) rfl
theorem u_913 : Cond.soleField "PromiseDeskModel" "dataB" ∈ Tw := Tw_4 (List.mem_of_getElem? (i := 193) rfl) rfl
theorem u_914 : Cond.laysFinal "PromiseDeskModel" "PromiseDeskModel" "dataC" "[I" ∈ Tw := Tw_4 (List.mem_of_getElem? (i := 194) rfl) rfl
theorem u_915 : Cond.soleField "PromiseDeskModel" "dataC" ∈ Tw := Tw_4 (List.mem_of_getElem? (i := 195) rfl) rfl
theorem u_916 : Cond.laysFinal "PromiseDeskModel" "PromiseDeskModel" "dataD" "[I" ∈ Tw := Tw_4 (List.mem_of_getElem? (i := 196) rfl) rfl
theorem u_917 : Cond.soleField "PromiseDeskModel" "dataD" ∈ Tw := Tw_4 (List.mem_of_getElem? (i := 197) rfl) rfl
theorem u_918 : Cond.laysFinal "PromiseDeskModel" "PromiseDeskModel" "dataE" "[I" ∈ Tw := Tw_4 (List.mem_of_getElem? (i := 198) rfl) rfl
theorem u_919 : Cond.soleField "PromiseDeskModel" "dataE" ∈ Tw := Tw_4 (List.mem_of_getElem? (i := 199) rfl) rfl
theorem u_920 : Cond.laysFinal "PromiseDeskModel" "PromiseDeskModel" "recordPromise" "[I" ∈ Tw := Tw_4 (List.mem_of_getElem? (i := 200) rfl) rfl
theorem u_921 : Cond.soleField "PromiseDeskModel" "recordPromise" ∈ Tw := Tw_4 (List.mem_of_getElem? (i := 201) rfl) rfl
theorem u_922 : Cond.laysFinal "PromiseDeskModel" "PromiseDeskModel" "recordDone" "[Z" ∈ Tw := Tw_4 (List.mem_of_getElem? (i := 202) rfl) rfl
theorem u_923 : Cond.soleField "PromiseDeskModel" "recordDone" ∈ Tw := Tw_4 (List.mem_of_getElem? (i := 203) rfl) rfl
theorem u_924 : Cond.lays "PromiseDeskModel" "PromiseDeskModel" "records" "I" ∈ Tw := Tw_4 (List.mem_of_getElem? (i := 204) rfl) rfl
theorem u_925 : Cond.soleField "PromiseDeskModel" "records" ∈ Tw := Tw_4 (List.mem_of_getElem? (i := 205) rfl) rfl
theorem u_926 : Cond.laysFinal "PromiseDeskModel" "PromiseDeskModel" "reactionNext" "[I" ∈ Tw := Tw_4 (List.mem_of_getElem? (i := 206) rfl) rfl
theorem u_927 : Cond.soleField "PromiseDeskModel" "reactionNext" ∈ Tw := Tw_4 (List.mem_of_getElem? (i := 207) rfl) rfl
theorem u_928 : Cond.laysFinal "PromiseDeskModel" "PromiseDeskModel" "reactionTo" "[I" ∈ Tw := Tw_4 (List.mem_of_getElem? (i := 208) rfl) rfl
theorem u_929 : Cond.soleField "PromiseDeskModel" "reactionTo" ∈ Tw := Tw_4 (List.mem_of_getElem? (i := 209) rfl) rfl
theorem u_930 : Cond.laysFinal "PromiseDeskModel" "PromiseDeskModel" "yesKind" "[I" ∈ Tw := Tw_4 (List.mem_of_getElem? (i := 210) rfl) rfl
theorem u_931 : Cond.soleField "PromiseDeskModel" "yesKind" ∈ Tw := Tw_4 (List.mem_of_getElem? (i := 211) rfl) rfl
theorem u_932 : Cond.laysFinal "PromiseDeskModel" "PromiseDeskModel" "yesOf" "[I" ∈ Tw := Tw_4 (List.mem_of_getElem? (i := 212) rfl) rfl
theorem u_933 : Cond.soleField "PromiseDeskModel" "yesOf" ∈ Tw := Tw_4 (List.mem_of_getElem? (i := 213) rfl) rfl
theorem u_934 : Cond.laysFinal "PromiseDeskModel" "PromiseDeskModel" "noKind" "[I" ∈ Tw := Tw_4 (List.mem_of_getElem? (i := 214) rfl) rfl
theorem u_935 : Cond.soleField "PromiseDeskModel" "noKind" ∈ Tw := Tw_4 (List.mem_of_getElem? (i := 215) rfl) rfl
theorem u_936 : Cond.laysFinal "PromiseDeskModel" "PromiseDeskModel" "noOf" "[I" ∈ Tw := Tw_4 (List.mem_of_getElem? (i := 216) rfl) rfl
theorem u_937 : Cond.soleField "PromiseDeskModel" "noOf" ∈ Tw := Tw_4 (List.mem_of_getElem? (i := 217) rfl) rfl
theorem u_938 : Cond.lays "PromiseDeskModel" "PromiseDeskModel" "reactionMany" "I" ∈ Tw := Tw_4 (List.mem_of_getElem? (i := 218) rfl) rfl
theorem u_939 : Cond.soleField "PromiseDeskModel" "reactionMany" ∈ Tw := Tw_4 (List.mem_of_getElem? (i := 219) rfl) rfl
theorem u_940 : Cond.laysFinal "PromiseDeskModel" "PromiseDeskModel" "jobKind" "[I" ∈ Tw := Tw_4 (List.mem_of_getElem? (i := 220) rfl) rfl
theorem u_941 : Cond.soleField "PromiseDeskModel" "jobKind" ∈ Tw := Tw_4 (List.mem_of_getElem? (i := 221) rfl) rfl
theorem u_942 : Cond.laysFinal "PromiseDeskModel" "PromiseDeskModel" "jobOf" "[I" ∈ Tw := Tw_4 (List.mem_of_getElem? (i := 222) rfl) rfl
theorem u_943 : Cond.soleField "PromiseDeskModel" "jobOf" ∈ Tw := Tw_4 (List.mem_of_getElem? (i := 223) rfl) rfl
theorem u_944 : Cond.laysFinal "PromiseDeskModel" "PromiseDeskModel" "jobTo" "[I" ∈ Tw := Tw_4 (List.mem_of_getElem? (i := 224) rfl) rfl
theorem u_945 : Cond.soleField "PromiseDeskModel" "jobTo" ∈ Tw := Tw_4 (List.mem_of_getElem? (i := 225) rfl) rfl
theorem u_946 : Cond.laysFinal "PromiseDeskModel" "PromiseDeskModel" "jobArgument" "[I" ∈ Tw := Tw_4 (List.mem_of_getElem? (i := 226) rfl) rfl
theorem u_947 : Cond.soleField "PromiseDeskModel" "jobArgument" ∈ Tw := Tw_4 (List.mem_of_getElem? (i := 227) rfl) rfl
theorem u_948 : Cond.laysFinal "PromiseDeskModel" "PromiseDeskModel" "jobRejects" "[Z" ∈ Tw := Tw_4 (List.mem_of_getElem? (i := 228) rfl) rfl
theorem u_949 : Cond.soleField "PromiseDeskModel" "jobRejects" ∈ Tw := Tw_4 (List.mem_of_getElem? (i := 229) rfl) rfl
theorem u_950 : Cond.laysFinal "PromiseDeskModel" "PromiseDeskModel" "jobThen" "[Z" ∈ Tw := Tw_4 (List.mem_of_getElem? (i := 230) rfl) rfl
theorem u_951 : Cond.soleField "PromiseDeskModel" "jobThen" ∈ Tw := Tw_4 (List.mem_of_getElem? (i := 231) rfl) rfl
theorem u_952 : Cond.lays "PromiseDeskModel" "PromiseDeskModel" "jobFirst" "I" ∈ Tw := Tw_4 (List.mem_of_getElem? (i := 232) rfl) rfl
theorem u_953 : Cond.soleField "PromiseDeskModel" "jobFirst" ∈ Tw := Tw_4 (List.mem_of_getElem? (i := 233) rfl) rfl
theorem u_954 : Cond.lays "PromiseDeskModel" "PromiseDeskModel" "jobEnd" "I" ∈ Tw := Tw_4 (List.mem_of_getElem? (i := 234) rfl) rfl
theorem u_955 : Cond.soleField "PromiseDeskModel" "jobEnd" ∈ Tw := Tw_4 (List.mem_of_getElem? (i := 235) rfl) rfl
theorem u_956 : Cond.laysFinal "PromiseDeskModel" "PromiseDeskModel" "act" "[I" ∈ Tw := Tw_4 (List.mem_of_getElem? (i := 236) rfl) rfl
theorem u_957 : Cond.soleField "PromiseDeskModel" "act" ∈ Tw := Tw_4 (List.mem_of_getElem? (i := 237) rfl) rfl
theorem u_958 : Cond.laysFinal "PromiseDeskModel" "PromiseDeskModel" "actValue" "[I" ∈ Tw := Tw_4 (List.mem_of_getElem? (i := 238) rfl) rfl
theorem u_959 : Cond.soleField "PromiseDeskModel" "actValue" ∈ Tw := Tw_4 (List.mem_of_getElem? (i := 239) rfl) rfl
theorem u_960 : Cond.lays "PromiseDeskModel" "PromiseDeskModel" "handlers" "I" ∈ Tw := Tw_5 (List.mem_of_getElem? (i := 0) rfl) rfl
theorem u_961 : Cond.soleField "PromiseDeskModel" "handlers" ∈ Tw := Tw_5 (List.mem_of_getElem? (i := 1) rfl) rfl
theorem u_962 : Cond.laysFinal "PromiseDeskModel" "PromiseDeskModel" "logWho" "[I" ∈ Tw := Tw_5 (List.mem_of_getElem? (i := 2) rfl) rfl
theorem u_963 : Cond.soleField "PromiseDeskModel" "logWho" ∈ Tw := Tw_5 (List.mem_of_getElem? (i := 3) rfl) rfl
theorem u_964 : Cond.laysFinal "PromiseDeskModel" "PromiseDeskModel" "logWhat" "[I" ∈ Tw := Tw_5 (List.mem_of_getElem? (i := 4) rfl) rfl
theorem u_965 : Cond.soleField "PromiseDeskModel" "logWhat" ∈ Tw := Tw_5 (List.mem_of_getElem? (i := 5) rfl) rfl
theorem u_966 : Cond.lays "PromiseDeskModel" "PromiseDeskModel" "logs" "I" ∈ Tw := Tw_5 (List.mem_of_getElem? (i := 6) rfl) rfl
theorem u_967 : Cond.soleField "PromiseDeskModel" "logs" ∈ Tw := Tw_5 (List.mem_of_getElem? (i := 7) rfl) rfl
theorem u_968 : Cond.laysFinal "PromiseDeskModel" "PromiseDeskModel" "list" "[I" ∈ Tw := Tw_5 (List.mem_of_getElem? (i := 8) rfl) rfl
theorem u_969 : Cond.soleField "PromiseDeskModel" "list" ∈ Tw := Tw_5 (List.mem_of_getElem? (i := 9) rfl) rfl
theorem u_970 : Cond.lays "PromiseDeskModel" "PromiseDeskModel" "listed" "I" ∈ Tw := Tw_5 (List.mem_of_getElem? (i := 10) rfl) rfl
theorem u_971 : Cond.soleField "PromiseDeskModel" "listed" ∈ Tw := Tw_5 (List.mem_of_getElem? (i := 11) rfl) rfl
theorem u_972 : Cond.laysFinal "PromiseDeskModel" "PromiseDeskModel" "value" "[I" ∈ Tw := Tw_5 (List.mem_of_getElem? (i := 12) rfl) rfl
theorem u_973 : Cond.soleField "PromiseDeskModel" "value" ∈ Tw := Tw_5 (List.mem_of_getElem? (i := 13) rfl) rfl
theorem u_974 : Cond.laysFinal "PromiseDeskModel" "PromiseDeskModel" "elementOf" "[I" ∈ Tw := Tw_5 (List.mem_of_getElem? (i := 14) rfl) rfl
theorem u_975 : Cond.soleField "PromiseDeskModel" "elementOf" ∈ Tw := Tw_5 (List.mem_of_getElem? (i := 15) rfl) rfl
theorem u_976 : Cond.laysFinal "PromiseDeskModel" "PromiseDeskModel" "elementDone" "[Z" ∈ Tw := Tw_5 (List.mem_of_getElem? (i := 16) rfl) rfl
theorem u_977 : Cond.soleField "PromiseDeskModel" "elementDone" ∈ Tw := Tw_5 (List.mem_of_getElem? (i := 17) rfl) rfl
theorem u_978 : Cond.lays "PromiseDeskModel" "PromiseDeskModel" "values" "I" ∈ Tw := Tw_5 (List.mem_of_getElem? (i := 18) rfl) rfl
theorem u_979 : Cond.soleField "PromiseDeskModel" "values" ∈ Tw := Tw_5 (List.mem_of_getElem? (i := 19) rfl) rfl
theorem u_980 : Cond.laysFinal "PromiseDeskModel" "PromiseDeskModel" "from" "[I" ∈ Tw := Tw_5 (List.mem_of_getElem? (i := 20) rfl) rfl
theorem u_981 : Cond.soleField "PromiseDeskModel" "from" ∈ Tw := Tw_5 (List.mem_of_getElem? (i := 21) rfl) rfl
theorem u_982 : Cond.laysFinal "PromiseDeskModel" "PromiseDeskModel" "many" "[I" ∈ Tw := Tw_5 (List.mem_of_getElem? (i := 22) rfl) rfl
theorem u_983 : Cond.soleField "PromiseDeskModel" "many" ∈ Tw := Tw_5 (List.mem_of_getElem? (i := 23) rfl) rfl
theorem u_984 : Cond.laysFinal "PromiseDeskModel" "PromiseDeskModel" "left" "[I" ∈ Tw := Tw_5 (List.mem_of_getElem? (i := 24) rfl) rfl
theorem u_985 : Cond.soleField "PromiseDeskModel" "left" ∈ Tw := Tw_5 (List.mem_of_getElem? (i := 25) rfl) rfl
theorem u_986 : Cond.laysFinal "PromiseDeskModel" "PromiseDeskModel" "to" "[I" ∈ Tw := Tw_5 (List.mem_of_getElem? (i := 26) rfl) rfl
theorem u_987 : Cond.soleField "PromiseDeskModel" "to" ∈ Tw := Tw_5 (List.mem_of_getElem? (i := 27) rfl) rfl
theorem u_988 : Cond.laysFinal "PromiseDeskModel" "PromiseDeskModel" "end" "[I" ∈ Tw := Tw_5 (List.mem_of_getElem? (i := 28) rfl) rfl
theorem u_989 : Cond.soleField "PromiseDeskModel" "end" ∈ Tw := Tw_5 (List.mem_of_getElem? (i := 29) rfl) rfl
theorem u_990 : Cond.laysFinal "PromiseDeskModel" "PromiseDeskModel" "calls" "[I" ∈ Tw := Tw_5 (List.mem_of_getElem? (i := 30) rfl) rfl
theorem u_991 : Cond.soleField "PromiseDeskModel" "calls" ∈ Tw := Tw_5 (List.mem_of_getElem? (i := 31) rfl) rfl
theorem u_992 : Cond.laysFinal "PromiseDeskModel" "PromiseDeskModel" "at" "[I" ∈ Tw := Tw_5 (List.mem_of_getElem? (i := 32) rfl) rfl
theorem u_993 : Cond.soleField "PromiseDeskModel" "at" ∈ Tw := Tw_5 (List.mem_of_getElem? (i := 33) rfl) rfl
theorem u_994 : Cond.lays "PromiseDeskModel" "PromiseDeskModel" "groups" "I" ∈ Tw := Tw_5 (List.mem_of_getElem? (i := 34) rfl) rfl
theorem u_995 : Cond.soleField "PromiseDeskModel" "groups" ∈ Tw := Tw_5 (List.mem_of_getElem? (i := 35) rfl) rfl
theorem u_996 : Cond.lays "PromiseDeskModel" "PromiseDeskModel" "threw" "Z" ∈ Tw := Tw_5 (List.mem_of_getElem? (i := 36) rfl) rfl
theorem u_997 : Cond.soleField "PromiseDeskModel" "threw" ∈ Tw := Tw_5 (List.mem_of_getElem? (i := 37) rfl) rfl
theorem u_998 : Cond.superclass "PromiseDeskModel" "java/lang/Object" ∈ Tw := Tw_5 (List.mem_of_getElem? (i := 38) rfl) rfl
theorem u_999 : Cond.arrayClass FieldType.boolean ∈ Tw := Tw_5 (List.mem_of_getElem? (i := 39) rfl) rfl
theorem u_1000 : Cond.methodLink "PromiseDeskLaw" 84 yX12_thrown ∈ Tw := Tw_5 (List.mem_of_getElem? (i := 40) rfl) rfl
theorem u_1001 : Cond.instanceMethod yX12_thrown ∈ Tw := Tw_5 (List.mem_of_getElem? (i := 41) rfl) rfl
theorem u_1002 : Cond.selects "PromiseDeskModel" yX12_thrown yX12_thrown ∈ Tw := Tw_5 (List.mem_of_getElem? (i := 42) rfl) rfl
theorem u_1003 : Cond.code yX12_thrown prog_14_method_2_code 1 (Option.some FieldType.int) ∈ Tw := Tw_5 (List.mem_of_getElem? (i := 43) rfl) rfl
theorem u_1004 : Cond.methodLink "PromiseDeskLaw" 83 yX12_promise ∈ Tw := Tw_5 (List.mem_of_getElem? (i := 44) rfl) rfl
theorem u_1005 : Cond.instanceMethod yX12_promise ∈ Tw := Tw_5 (List.mem_of_getElem? (i := 45) rfl) rfl
theorem u_1006 : Cond.selects "PromiseDeskModel" yX12_promise yX12_promise ∈ Tw := Tw_5 (List.mem_of_getElem? (i := 46) rfl) rfl
theorem u_1007 : Cond.code yX12_promise prog_14_method_33_code 3 (Option.some FieldType.int) ∈ Tw := Tw_5 (List.mem_of_getElem? (i := 47) rfl) rfl
theorem u_1008 : Cond.methodLink "PromiseDeskModel" 254 yX12_isFull ∈ Tw := Tw_5 (List.mem_of_getElem? (i := 48) rfl) rfl
theorem u_1010 : Cond.instanceMethod yX12_isFull ∈ Tw := Tw_5 (List.mem_of_getElem? (i := 50) rfl) rfl
theorem u_1011 : Cond.code yX12_isFull prog_14_method_9_code 2 (Option.some FieldType.boolean) ∈ Tw := Tw_5 (List.mem_of_getElem? (i := 51) rfl) rfl
theorem u_1012 : Cond.methodLink "PromiseDeskModel" 257 yX12_fails ∈ Tw := Tw_5 (List.mem_of_getElem? (i := 52) rfl) rfl
theorem u_1014 : Cond.instanceMethod yX12_fails ∈ Tw := Tw_5 (List.mem_of_getElem? (i := 54) rfl) rfl
theorem u_1015 : Cond.code yX12_fails prog_14_method_3_code 2 (Option.some FieldType.int) ∈ Tw := Tw_5 (List.mem_of_getElem? (i := 55) rfl) rfl
theorem u_1016 : Cond.methodLink "PromiseDeskModel" 171 yX12_capability ∈ Tw := Tw_5 (List.mem_of_getElem? (i := 56) rfl) rfl
theorem u_1018 : Cond.instanceMethod yX12_capability ∈ Tw := Tw_5 (List.mem_of_getElem? (i := 58) rfl) rfl
theorem u_1019 : Cond.code yX12_capability prog_14_method_12_code 1 (Option.some FieldType.int) ∈ Tw := Tw_5 (List.mem_of_getElem? (i := 59) rfl) rfl
theorem u_1020 : Cond.methodLink "PromiseDeskModel" 148 yX12_newObject ∈ Tw := Tw_5 (List.mem_of_getElem? (i := 60) rfl) rfl
theorem u_1022 : Cond.instanceMethod yX12_newObject ∈ Tw := Tw_5 (List.mem_of_getElem? (i := 62) rfl) rfl
theorem u_1023 : Cond.code yX12_newObject prog_14_method_10_code 3 (Option.some FieldType.int) ∈ Tw := Tw_5 (List.mem_of_getElem? (i := 63) rfl) rfl
theorem u_1024 : Cond.methodLink "PromiseDeskModel" 152 yX12_record ∈ Tw := Tw_5 (List.mem_of_getElem? (i := 64) rfl) rfl
theorem u_1026 : Cond.instanceMethod yX12_record ∈ Tw := Tw_5 (List.mem_of_getElem? (i := 66) rfl) rfl
theorem u_1027 : Cond.code yX12_record prog_14_method_11_code 3 (Option.some FieldType.int) ∈ Tw := Tw_5 (List.mem_of_getElem? (i := 67) rfl) rfl
theorem u_1028 : Cond.methodLink "PromiseDeskModel" 155 yX12_valueOf ∈ Tw := Tw_5 (List.mem_of_getElem? (i := 68) rfl) rfl
theorem u_1029 : Cond.static yX12_valueOf ∈ Tw := Tw_5 (List.mem_of_getElem? (i := 69) rfl) rfl
theorem u_1030 : Cond.code yX12_valueOf prog_14_method_4_code 1 (Option.some FieldType.int) ∈ Tw := Tw_5 (List.mem_of_getElem? (i := 70) rfl) rfl
theorem u_1031 : Cond.methodLink "PromiseDeskLaw" 90 yX12_handler ∈ Tw := Tw_5 (List.mem_of_getElem? (i := 71) rfl) rfl
theorem u_1032 : Cond.instanceMethod yX12_handler ∈ Tw := Tw_5 (List.mem_of_getElem? (i := 72) rfl) rfl
theorem u_1033 : Cond.selects "PromiseDeskModel" yX12_handler yX12_handler ∈ Tw := Tw_5 (List.mem_of_getElem? (i := 73) rfl) rfl
theorem u_1034 : Cond.code yX12_handler prog_14_method_35_code 3 (Option.some FieldType.int) ∈ Tw := Tw_5 (List.mem_of_getElem? (i := 74) rfl) rfl
theorem u_1035 : Cond.methodLink "PromiseDeskModel" 260 yX12_isValue ∈ Tw := Tw_5 (List.mem_of_getElem? (i := 75) rfl) rfl
theorem u_1037 : Cond.instanceMethod yX12_isValue ∈ Tw := Tw_5 (List.mem_of_getElem? (i := 77) rfl) rfl
theorem u_1038 : Cond.code yX12_isValue prog_14_method_6_code 2 (Option.some FieldType.boolean) ∈ Tw := Tw_5 (List.mem_of_getElem? (i := 78) rfl) rfl
theorem u_1039 : Cond.methodLink "PromiseDeskModel" 138 yX12_isObject ∈ Tw := Tw_5 (List.mem_of_getElem? (i := 79) rfl) rfl
theorem u_1041 : Cond.instanceMethod yX12_isObject ∈ Tw := Tw_5 (List.mem_of_getElem? (i := 81) rfl) rfl
theorem u_1042 : Cond.code yX12_isObject prog_14_method_5_code 2 (Option.some FieldType.boolean) ∈ Tw := Tw_5 (List.mem_of_getElem? (i := 82) rfl) rfl
theorem u_1043 : Cond.methodLink "PromiseDeskModel" 263 yX12_isKept ∈ Tw := Tw_5 (List.mem_of_getElem? (i := 83) rfl) rfl
theorem u_1045 : Cond.instanceMethod yX12_isKept ∈ Tw := Tw_5 (List.mem_of_getElem? (i := 85) rfl) rfl
theorem u_1046 : Cond.code yX12_isKept prog_14_method_34_code 2 (Option.some FieldType.boolean) ∈ Tw := Tw_5 (List.mem_of_getElem? (i := 86) rfl) rfl
theorem u_1047 : Cond.methodLink "PromiseDeskModel" 179 yX12_isKind ∈ Tw := Tw_5 (List.mem_of_getElem? (i := 87) rfl) rfl
theorem u_1049 : Cond.instanceMethod yX12_isKind ∈ Tw := Tw_5 (List.mem_of_getElem? (i := 89) rfl) rfl
theorem u_1050 : Cond.code yX12_isKind prog_14_method_7_code 3 (Option.some FieldType.boolean) ∈ Tw := Tw_5 (List.mem_of_getElem? (i := 90) rfl) rfl
theorem u_1051 : Cond.methodLink "PromiseDeskLaw" 94 yX12_thenable ∈ Tw := Tw_5 (List.mem_of_getElem? (i := 91) rfl) rfl
theorem u_1052 : Cond.instanceMethod yX12_thenable ∈ Tw := Tw_5 (List.mem_of_getElem? (i := 92) rfl) rfl
theorem u_1053 : Cond.selects "PromiseDeskModel" yX12_thenable yX12_thenable ∈ Tw := Tw_5 (List.mem_of_getElem? (i := 93) rfl) rfl
theorem u_1054 : Cond.code yX12_thenable prog_14_method_36_code 7 (Option.some FieldType.int) ∈ Tw := Tw_5 (List.mem_of_getElem? (i := 94) rfl) rfl
theorem u_1055 : Cond.methodLink "PromiseDeskLaw" 98 yX12_settle_ ∈ Tw := Tw_5 (List.mem_of_getElem? (i := 95) rfl) rfl
theorem u_1056 : Cond.instanceMethod yX12_settle_ ∈ Tw := Tw_5 (List.mem_of_getElem? (i := 96) rfl) rfl
theorem u_1057 : Cond.selects "PromiseDeskModel" yX12_settle_ yX12_settle_ ∈ Tw := Tw_5 (List.mem_of_getElem? (i := 97) rfl) rfl
theorem u_1058 : Cond.code yX12_settle_ prog_14_method_37_code 6 (Option.some FieldType.boolean) ∈ Tw := Tw_5 (List.mem_of_getElem? (i := 98) rfl) rfl
theorem u_1059 : Cond.methodLink "PromiseDeskModel" 197 yX12_reject ∈ Tw := Tw_5 (List.mem_of_getElem? (i := 99) rfl) rfl
theorem u_1061 : Cond.instanceMethod yX12_reject ∈ Tw := Tw_5 (List.mem_of_getElem? (i := 101) rfl) rfl
theorem u_1062 : Cond.code yX12_reject prog_14_method_14_code 3 (Option.none : Option FieldType) ∈ Tw := Tw_5 (List.mem_of_getElem? (i := 102) rfl) rfl
theorem u_1063 : Cond.methodLink "PromiseDeskModel" 158 yX12_settle ∈ Tw := Tw_5 (List.mem_of_getElem? (i := 103) rfl) rfl
theorem u_1065 : Cond.instanceMethod yX12_settle ∈ Tw := Tw_5 (List.mem_of_getElem? (i := 105) rfl) rfl
theorem u_1066 : Cond.code yX12_settle prog_14_method_15_code 5 (Option.none : Option FieldType) ∈ Tw := Tw_5 (List.mem_of_getElem? (i := 106) rfl) rfl
theorem u_1067 : Cond.methodLink "PromiseDeskModel" 165 yX12_react ∈ Tw := Tw_5 (List.mem_of_getElem? (i := 107) rfl) rfl
theorem u_1069 : Cond.instanceMethod yX12_react ∈ Tw := Tw_5 (List.mem_of_getElem? (i := 109) rfl) rfl
theorem u_1070 : Cond.code yX12_react prog_14_method_16_code 4 (Option.none : Option FieldType) ∈ Tw := Tw_5 (List.mem_of_getElem? (i := 110) rfl) rfl
theorem u_1071 : Cond.methodLink "PromiseDeskModel" 183 yX12_resolve ∈ Tw := Tw_5 (List.mem_of_getElem? (i := 111) rfl) rfl
theorem u_1073 : Cond.instanceMethod yX12_resolve ∈ Tw := Tw_5 (List.mem_of_getElem? (i := 113) rfl) rfl
theorem u_1074 : Cond.code yX12_resolve prog_14_method_13_code 5 (Option.none : Option FieldType) ∈ Tw := Tw_5 (List.mem_of_getElem? (i := 114) rfl) rfl
theorem u_1075 : Cond.methodLink "PromiseDeskLaw" 101 yX12_later ∈ Tw := Tw_5 (List.mem_of_getElem? (i := 115) rfl) rfl
theorem u_1076 : Cond.instanceMethod yX12_later ∈ Tw := Tw_5 (List.mem_of_getElem? (i := 116) rfl) rfl
theorem u_1077 : Cond.selects "PromiseDeskModel" yX12_later yX12_later ∈ Tw := Tw_5 (List.mem_of_getElem? (i := 117) rfl) rfl
theorem u_1078 : Cond.code yX12_later prog_14_method_38_code 6 (Option.some FieldType.int) ∈ Tw := Tw_5 (List.mem_of_getElem? (i := 118) rfl) rfl
theorem u_1079 : Cond.methodLink "PromiseDeskLaw" 105 yX12_then_ ∈ Tw := Tw_5 (List.mem_of_getElem? (i := 119) rfl) rfl
theorem u_1080 : Cond.instanceMethod yX12_then_ ∈ Tw := Tw_5 (List.mem_of_getElem? (i := 120) rfl) rfl
theorem u_1081 : Cond.selects "PromiseDeskModel" yX12_then_ yX12_then_ ∈ Tw := Tw_5 (List.mem_of_getElem? (i := 121) rfl) rfl
theorem u_1082 : Cond.code yX12_then_ prog_14_method_39_code 6 (Option.some FieldType.int) ∈ Tw := Tw_5 (List.mem_of_getElem? (i := 122) rfl) rfl
theorem u_1083 : Cond.methodLink "PromiseDeskModel" 266 yX12_isHandler ∈ Tw := Tw_5 (List.mem_of_getElem? (i := 123) rfl) rfl
theorem u_1085 : Cond.instanceMethod yX12_isHandler ∈ Tw := Tw_5 (List.mem_of_getElem? (i := 125) rfl) rfl
theorem u_1086 : Cond.code yX12_isHandler prog_14_method_8_code 2 (Option.some FieldType.boolean) ∈ Tw := Tw_5 (List.mem_of_getElem? (i := 126) rfl) rfl
theorem u_1087 : Cond.methodLink "PromiseDeskModel" 220 yX12_then ∈ Tw := Tw_5 (List.mem_of_getElem? (i := 127) rfl) rfl
theorem u_1089 : Cond.instanceMethod yX12_then ∈ Tw := Tw_5 (List.mem_of_getElem? (i := 129) rfl) rfl
theorem u_1090 : Cond.code yX12_then prog_14_method_18_code 7 (Option.some FieldType.int) ∈ Tw := Tw_5 (List.mem_of_getElem? (i := 130) rfl) rfl
theorem u_1091 : Cond.methodLink "PromiseDeskModel" 175 yX12_performThen ∈ Tw := Tw_5 (List.mem_of_getElem? (i := 131) rfl) rfl
theorem u_1093 : Cond.instanceMethod yX12_performThen ∈ Tw := Tw_5 (List.mem_of_getElem? (i := 133) rfl) rfl
theorem u_1094 : Cond.code yX12_performThen prog_14_method_17_code 9 (Option.none : Option FieldType) ∈ Tw := Tw_5 (List.mem_of_getElem? (i := 134) rfl) rfl
theorem u_1095 : Cond.methodLink "PromiseDeskLaw" 108 yX12_lastly ∈ Tw := Tw_5 (List.mem_of_getElem? (i := 135) rfl) rfl
theorem u_1096 : Cond.instanceMethod yX12_lastly ∈ Tw := Tw_5 (List.mem_of_getElem? (i := 136) rfl) rfl
theorem u_1097 : Cond.selects "PromiseDeskModel" yX12_lastly yX12_lastly ∈ Tw := Tw_5 (List.mem_of_getElem? (i := 137) rfl) rfl
theorem u_1098 : Cond.code yX12_lastly prog_14_method_40_code 3 (Option.some FieldType.int) ∈ Tw := Tw_5 (List.mem_of_getElem? (i := 138) rfl) rfl
theorem u_1099 : Cond.methodLink "PromiseDeskLaw" 112 yX12_wrap ∈ Tw := Tw_5 (List.mem_of_getElem? (i := 139) rfl) rfl
theorem u_1100 : Cond.instanceMethod yX12_wrap ∈ Tw := Tw_5 (List.mem_of_getElem? (i := 140) rfl) rfl
theorem u_1101 : Cond.selects "PromiseDeskModel" yX12_wrap yX12_wrap ∈ Tw := Tw_5 (List.mem_of_getElem? (i := 141) rfl) rfl
theorem u_1102 : Cond.code yX12_wrap prog_14_method_41_code 2 (Option.some FieldType.int) ∈ Tw := Tw_5 (List.mem_of_getElem? (i := 142) rfl) rfl
theorem u_1103 : Cond.methodLink "PromiseDeskModel" 214 yX12_promiseOf ∈ Tw := Tw_5 (List.mem_of_getElem? (i := 143) rfl) rfl
theorem u_1105 : Cond.instanceMethod yX12_promiseOf ∈ Tw := Tw_5 (List.mem_of_getElem? (i := 145) rfl) rfl
theorem u_1106 : Cond.code yX12_promiseOf prog_14_method_19_code 3 (Option.some FieldType.int) ∈ Tw := Tw_5 (List.mem_of_getElem? (i := 146) rfl) rfl
theorem u_1107 : Cond.methodLink "PromiseDeskLaw" 115 yX12_broken ∈ Tw := Tw_5 (List.mem_of_getElem? (i := 147) rfl) rfl
theorem u_1108 : Cond.instanceMethod yX12_broken ∈ Tw := Tw_5 (List.mem_of_getElem? (i := 148) rfl) rfl
theorem u_1109 : Cond.selects "PromiseDeskModel" yX12_broken yX12_broken ∈ Tw := Tw_5 (List.mem_of_getElem? (i := 149) rfl) rfl
theorem u_1110 : Cond.code yX12_broken prog_14_method_42_code 3 (Option.some FieldType.int) ∈ Tw := Tw_5 (List.mem_of_getElem? (i := 150) rfl) rfl
theorem u_1111 : Cond.methodLink "PromiseDeskLaw" 118 yX12_item ∈ Tw := Tw_5 (List.mem_of_getElem? (i := 151) rfl) rfl
theorem u_1112 : Cond.instanceMethod yX12_item ∈ Tw := Tw_5 (List.mem_of_getElem? (i := 152) rfl) rfl
theorem u_1113 : Cond.selects "PromiseDeskModel" yX12_item yX12_item ∈ Tw := Tw_5 (List.mem_of_getElem? (i := 153) rfl) rfl
theorem u_1114 : Cond.code yX12_item prog_14_method_43_code 2 (Option.some FieldType.int) ∈ Tw := Tw_5 (List.mem_of_getElem? (i := 154) rfl) rfl
theorem u_1115 : Cond.methodLink "PromiseDeskLaw" 121 yX12_combine ∈ Tw := Tw_5 (List.mem_of_getElem? (i := 155) rfl) rfl
theorem u_1116 : Cond.instanceMethod yX12_combine ∈ Tw := Tw_5 (List.mem_of_getElem? (i := 156) rfl) rfl
theorem u_1117 : Cond.selects "PromiseDeskModel" yX12_combine yX12_combine ∈ Tw := Tw_5 (List.mem_of_getElem? (i := 157) rfl) rfl
theorem u_1118 : Cond.code yX12_combine prog_14_method_44_code 7 (Option.some FieldType.int) ∈ Tw := Tw_5 (List.mem_of_getElem? (i := 158) rfl) rfl
theorem u_1119 : Cond.methodLink "PromiseDeskModel" 269 yX12_group ∈ Tw := Tw_5 (List.mem_of_getElem? (i := 159) rfl) rfl
theorem u_1121 : Cond.instanceMethod yX12_group ∈ Tw := Tw_5 (List.mem_of_getElem? (i := 161) rfl) rfl
theorem u_1122 : Cond.code yX12_group prog_14_method_32_code 3 (Option.some FieldType.int) ∈ Tw := Tw_5 (List.mem_of_getElem? (i := 162) rfl) rfl
theorem u_1123 : Cond.methodLink "PromiseDeskModel" 224 yX12_finish ∈ Tw := Tw_5 (List.mem_of_getElem? (i := 163) rfl) rfl
theorem u_1125 : Cond.instanceMethod yX12_finish ∈ Tw := Tw_5 (List.mem_of_getElem? (i := 165) rfl) rfl
theorem u_1126 : Cond.code yX12_finish prog_14_method_26_code 4 (Option.none : Option FieldType) ∈ Tw := Tw_5 (List.mem_of_getElem? (i := 166) rfl) rfl
theorem u_1127 : Cond.methodLink "PromiseDeskModel" 228 yX12_array ∈ Tw := Tw_5 (List.mem_of_getElem? (i := 167) rfl) rfl
theorem u_1129 : Cond.instanceMethod yX12_array ∈ Tw := Tw_5 (List.mem_of_getElem? (i := 169) rfl) rfl
theorem u_1130 : Cond.code yX12_array prog_14_method_24_code 4 (Option.some FieldType.int) ∈ Tw := Tw_5 (List.mem_of_getElem? (i := 170) rfl) rfl
theorem u_1131 : Cond.methodLink "PromiseDeskLaw" 124 yX12_async ∈ Tw := Tw_5 (List.mem_of_getElem? (i := 171) rfl) rfl
theorem u_1132 : Cond.instanceMethod yX12_async ∈ Tw := Tw_5 (List.mem_of_getElem? (i := 172) rfl) rfl
theorem u_1133 : Cond.selects "PromiseDeskModel" yX12_async yX12_async ∈ Tw := Tw_5 (List.mem_of_getElem? (i := 173) rfl) rfl
theorem u_1134 : Cond.code yX12_async prog_14_method_45_code 5 (Option.some FieldType.int) ∈ Tw := Tw_5 (List.mem_of_getElem? (i := 174) rfl) rfl
theorem u_1135 : Cond.methodLink "PromiseDeskModel" 244 yX12_goOn ∈ Tw := Tw_5 (List.mem_of_getElem? (i := 175) rfl) rfl
theorem u_1137 : Cond.instanceMethod yX12_goOn ∈ Tw := Tw_5 (List.mem_of_getElem? (i := 177) rfl) rfl
theorem u_1138 : Cond.code yX12_goOn prog_14_method_30_code 3 (Option.none : Option FieldType) ∈ Tw := Tw_5 (List.mem_of_getElem? (i := 178) rfl) rfl
theorem u_1139 : Cond.methodLink "PromiseDeskLaw" 127 yX12_jobs ∈ Tw := Tw_5 (List.mem_of_getElem? (i := 179) rfl) rfl
theorem u_1140 : Cond.instanceMethod yX12_jobs ∈ Tw := Tw_5 (List.mem_of_getElem? (i := 180) rfl) rfl
theorem u_1141 : Cond.selects "PromiseDeskModel" yX12_jobs yX12_jobs ∈ Tw := Tw_5 (List.mem_of_getElem? (i := 181) rfl) rfl
theorem u_1142 : Cond.code yX12_jobs prog_14_method_46_code 3 (Option.some FieldType.int) ∈ Tw := Tw_5 (List.mem_of_getElem? (i := 182) rfl) rfl
theorem u_1143 : Cond.methodLink "PromiseDeskModel" 272 yX12_job ∈ Tw := Tw_5 (List.mem_of_getElem? (i := 183) rfl) rfl
theorem u_1145 : Cond.instanceMethod yX12_job ∈ Tw := Tw_5 (List.mem_of_getElem? (i := 185) rfl) rfl
theorem u_1146 : Cond.code yX12_job prog_14_method_27_code 3 (Option.none : Option FieldType) ∈ Tw := Tw_5 (List.mem_of_getElem? (i := 186) rfl) rfl
theorem u_1147 : Cond.methodLink "PromiseDeskModel" 234 yX12_thenJob ∈ Tw := Tw_5 (List.mem_of_getElem? (i := 187) rfl) rfl
theorem u_1149 : Cond.instanceMethod yX12_thenJob ∈ Tw := Tw_5 (List.mem_of_getElem? (i := 189) rfl) rfl
theorem u_1150 : Cond.code yX12_thenJob prog_14_method_28_code 4 (Option.none : Option FieldType) ∈ Tw := Tw_5 (List.mem_of_getElem? (i := 190) rfl) rfl
theorem u_1151 : Cond.methodLink "PromiseDeskModel" 190 yX12_note ∈ Tw := Tw_5 (List.mem_of_getElem? (i := 191) rfl) rfl
theorem u_1153 : Cond.instanceMethod yX12_note ∈ Tw := Tw_5 (List.mem_of_getElem? (i := 193) rfl) rfl
theorem u_1154 : Cond.code yX12_note prog_14_method_20_code 3 (Option.none : Option FieldType) ∈ Tw := Tw_5 (List.mem_of_getElem? (i := 194) rfl) rfl
theorem u_1155 : Cond.methodLink "PromiseDeskModel" 240 yX12_does ∈ Tw := Tw_5 (List.mem_of_getElem? (i := 195) rfl) rfl
theorem u_1157 : Cond.instanceMethod yX12_does ∈ Tw := Tw_5 (List.mem_of_getElem? (i := 197) rfl) rfl
theorem u_1158 : Cond.code yX12_does prog_14_method_29_code 5 (Option.some FieldType.boolean) ∈ Tw := Tw_5 (List.mem_of_getElem? (i := 198) rfl) rfl
theorem u_1159 : Cond.methodLink "PromiseDeskModel" 237 yX12_call ∈ Tw := Tw_5 (List.mem_of_getElem? (i := 199) rfl) rfl
theorem u_1161 : Cond.instanceMethod yX12_call ∈ Tw := Tw_5 (List.mem_of_getElem? (i := 201) rfl) rfl
theorem u_1162 : Cond.code yX12_call prog_14_method_22_code 4 (Option.some FieldType.int) ∈ Tw := Tw_5 (List.mem_of_getElem? (i := 202) rfl) rfl
theorem u_1163 : Cond.methodLink "PromiseDeskModel" 200 yX12_handle ∈ Tw := Tw_5 (List.mem_of_getElem? (i := 203) rfl) rfl
theorem u_1165 : Cond.instanceMethod yX12_handle ∈ Tw := Tw_5 (List.mem_of_getElem? (i := 205) rfl) rfl
theorem u_1166 : Cond.code yX12_handle prog_14_method_21_code 4 (Option.some FieldType.int) ∈ Tw := Tw_5 (List.mem_of_getElem? (i := 206) rfl) rfl
theorem u_1167 : Cond.methodLink "PromiseDeskModel" 204 yX12_element ∈ Tw := Tw_5 (List.mem_of_getElem? (i := 207) rfl) rfl
theorem u_1169 : Cond.instanceMethod yX12_element ∈ Tw := Tw_5 (List.mem_of_getElem? (i := 209) rfl) rfl
theorem u_1170 : Cond.code yX12_element prog_14_method_25_code 6 (Option.none : Option FieldType) ∈ Tw := Tw_5 (List.mem_of_getElem? (i := 210) rfl) rfl
theorem u_1171 : Cond.methodLink "PromiseDeskModel" 207 yX12_last ∈ Tw := Tw_5 (List.mem_of_getElem? (i := 211) rfl) rfl
theorem u_1173 : Cond.instanceMethod yX12_last ∈ Tw := Tw_5 (List.mem_of_getElem? (i := 213) rfl) rfl
theorem u_1174 : Cond.code yX12_last prog_14_method_23_code 8 (Option.some FieldType.int) ∈ Tw := Tw_5 (List.mem_of_getElem? (i := 214) rfl) rfl
theorem u_1175 : Cond.methodLink "PromiseDeskModel" 211 yX12_resume ∈ Tw := Tw_5 (List.mem_of_getElem? (i := 215) rfl) rfl
theorem u_1177 : Cond.instanceMethod yX12_resume ∈ Tw := Tw_5 (List.mem_of_getElem? (i := 217) rfl) rfl
theorem u_1178 : Cond.code yX12_resume prog_14_method_31_code 4 (Option.none : Option FieldType) ∈ Tw := Tw_5 (List.mem_of_getElem? (i := 218) rfl) rfl
theorem u_1179 : Cond.methodLink "PromiseDeskLaw" 130 yX12_state ∈ Tw := Tw_5 (List.mem_of_getElem? (i := 219) rfl) rfl
theorem u_1180 : Cond.instanceMethod yX12_state ∈ Tw := Tw_5 (List.mem_of_getElem? (i := 220) rfl) rfl
theorem u_1181 : Cond.selects "PromiseDeskModel" yX12_state yX12_state ∈ Tw := Tw_5 (List.mem_of_getElem? (i := 221) rfl) rfl
theorem u_1182 : Cond.code yX12_state prog_14_method_47_code 2 (Option.some FieldType.int) ∈ Tw := Tw_5 (List.mem_of_getElem? (i := 222) rfl) rfl
theorem u_1183 : Cond.methodLink "PromiseDeskLaw" 133 yX12_result ∈ Tw := Tw_5 (List.mem_of_getElem? (i := 223) rfl) rfl
theorem u_1184 : Cond.instanceMethod yX12_result ∈ Tw := Tw_5 (List.mem_of_getElem? (i := 224) rfl) rfl
theorem u_1185 : Cond.selects "PromiseDeskModel" yX12_result yX12_result ∈ Tw := Tw_5 (List.mem_of_getElem? (i := 225) rfl) rfl
theorem u_1186 : Cond.code yX12_result prog_14_method_48_code 2 (Option.some FieldType.int) ∈ Tw := Tw_5 (List.mem_of_getElem? (i := 226) rfl) rfl
theorem u_1187 : Cond.methodLink "PromiseDeskLaw" 136 yX12_kind ∈ Tw := Tw_5 (List.mem_of_getElem? (i := 227) rfl) rfl
theorem u_1188 : Cond.instanceMethod yX12_kind ∈ Tw := Tw_5 (List.mem_of_getElem? (i := 228) rfl) rfl
theorem u_1189 : Cond.selects "PromiseDeskModel" yX12_kind yX12_kind ∈ Tw := Tw_5 (List.mem_of_getElem? (i := 229) rfl) rfl
theorem u_1190 : Cond.code yX12_kind prog_14_method_49_code 2 (Option.some FieldType.int) ∈ Tw := Tw_5 (List.mem_of_getElem? (i := 230) rfl) rfl
theorem u_1191 : Cond.methodLink "PromiseDeskLaw" 139 yX12_part ∈ Tw := Tw_5 (List.mem_of_getElem? (i := 231) rfl) rfl
theorem u_1192 : Cond.instanceMethod yX12_part ∈ Tw := Tw_5 (List.mem_of_getElem? (i := 232) rfl) rfl
theorem u_1193 : Cond.selects "PromiseDeskModel" yX12_part yX12_part ∈ Tw := Tw_5 (List.mem_of_getElem? (i := 233) rfl) rfl
theorem u_1194 : Cond.code yX12_part prog_14_method_50_code 4 (Option.some FieldType.int) ∈ Tw := Tw_5 (List.mem_of_getElem? (i := 234) rfl) rfl
theorem u_1195 : Cond.methodLink "PromiseDeskLaw" 144 yX12_log ∈ Tw := Tw_5 (List.mem_of_getElem? (i := 235) rfl) rfl
theorem u_1196 : Cond.instanceMethod yX12_log ∈ Tw := Tw_5 (List.mem_of_getElem? (i := 236) rfl) rfl
theorem u_1197 : Cond.selects "PromiseDeskModel" yX12_log yX12_log ∈ Tw := Tw_5 (List.mem_of_getElem? (i := 237) rfl) rfl
theorem u_1198 : Cond.code yX12_log prog_14_method_51_code 3 (Option.some FieldType.int) ∈ Tw := Tw_5 (List.mem_of_getElem? (i := 238) rfl) rfl
theorem u_1199 : Cond.constant "PromiseDeskModel" 275 (-1000000) ∈ Tw := Tw_5 (List.mem_of_getElem? (i := 239) rfl) rfl
theorem u_1200 : Cond.methodLink "PromiseDeskLaw" 147 yX12_count ∈ Tw := Tw_6 (List.mem_of_getElem? (i := 0) rfl) rfl
theorem u_1201 : Cond.instanceMethod yX12_count ∈ Tw := Tw_6 (List.mem_of_getElem? (i := 1) rfl) rfl
theorem u_1202 : Cond.selects "PromiseDeskModel" yX12_count yX12_count ∈ Tw := Tw_6 (List.mem_of_getElem? (i := 2) rfl) rfl
theorem u_1203 : Cond.code yX12_count prog_14_method_52_code 2 (Option.some FieldType.int) ∈ Tw := Tw_6 (List.mem_of_getElem? (i := 3) rfl) rfl
theorem u_1204 : Cond.arrayClass FieldType.long ∈ Tw := Tw_6 (List.mem_of_getElem? (i := 4) rfl) rfl
theorem u_1205 : Cond.sameMethod "java/lang/Throwable" "java/lang/Throwable" "fillInStackTrace" "(I)Ljava/lang/Throwable;" ∈ Tw := Tw_6 (List.mem_of_getElem? (i := 5) rfl) rfl
theorem u_1212 : Cond.sameMethod "[Ljava/lang/Object;" "java/lang/Object" "getClass" "()Ljava/lang/Class;" ∈ Tw := Tw_6 (List.mem_of_getElem? (i := 12) rfl) rfl
theorem u_1213 : Cond.selects "[Ljava/lang/Object;" ⟨"java/lang/Object", "getClass", "()Ljava/lang/Class;"⟩ ⟨"java/lang/Object", "getClass", "()Ljava/lang/Class;"⟩ ∈ Tw := Tw_6 (List.mem_of_getElem? (i := 13) rfl) rfl
theorem us_0 : Cond.selects RX11 yX11_requireRoom yX11_requireRoom ∈ Tw := Tw_sel (List.mem_of_getElem? (i := 0) rfl) rfl
theorem us_1 : Cond.selects "java/lang/Throwable" ⟨"java/lang/Throwable", "fillInStackTrace", "(I)Ljava/lang/Throwable;"⟩ ⟨"java/lang/Throwable", "fillInStackTrace", "(I)Ljava/lang/Throwable;"⟩ ∈ Tw := Tw_sel (List.mem_of_getElem? (i := 1) rfl) rfl
theorem us_2 : Cond.selects RX11 yX11_newPromise yX11_newPromise ∈ Tw := Tw_sel (List.mem_of_getElem? (i := 2) rfl) rfl
theorem us_3 : Cond.selects RX11 yX11_nextValue yX11_nextValue ∈ Tw := Tw_sel (List.mem_of_getElem? (i := 3) rfl) rfl
theorem us_4 : Cond.selects RJx4a65c yJx4a65c_add_72be8 yJx4a65c_add_72be8 ∈ Tw := Tw_sel (List.mem_of_getElem? (i := 4) rfl) rfl
theorem us_5 : Cond.selects RJx4a65c yJx4a65c_grow_d5877 yJx4a65c_grow_d5877 ∈ Tw := Tw_sel (List.mem_of_getElem? (i := 5) rfl) rfl
theorem us_6 : Cond.selects RJx4a65c yJx4a65c_grow_92f84 yJx4a65c_grow_92f84 ∈ Tw := Tw_sel (List.mem_of_getElem? (i := 6) rfl) rfl
theorem us_7 : Cond.selects RX11 yX11_requireRange yX11_requireRange ∈ Tw := Tw_sel (List.mem_of_getElem? (i := 7) rfl) rfl
theorem us_8 : Cond.selects RX11 yX11_requireValue yX11_requireValue ∈ Tw := Tw_sel (List.mem_of_getElem? (i := 8) rfl) rfl
theorem us_9 : Cond.selects RX11 yX11_thingOf yX11_thingOf ∈ Tw := Tw_sel (List.mem_of_getElem? (i := 9) rfl) rfl
theorem us_10 : Cond.selects RX11 yX11_requireKept yX11_requireKept ∈ Tw := Tw_sel (List.mem_of_getElem? (i := 10) rfl) rfl
theorem us_11 : Cond.selects RX11 yX11_requirePromise yX11_requirePromise ∈ Tw := Tw_sel (List.mem_of_getElem? (i := 11) rfl) rfl
theorem us_12 : Cond.selects RX11 yX11_callOneOf yX11_callOneOf ∈ Tw := Tw_sel (List.mem_of_getElem? (i := 12) rfl) rfl
theorem us_13 : Cond.selects RX11 yX11_reject yX11_reject ∈ Tw := Tw_sel (List.mem_of_getElem? (i := 13) rfl) rfl
theorem us_14 : Cond.selects RX11 yX11_close yX11_close ∈ Tw := Tw_sel (List.mem_of_getElem? (i := 14) rfl) rfl
theorem us_15 : Cond.selects RX11 yX11_enqueue yX11_enqueue ∈ Tw := Tw_sel (List.mem_of_getElem? (i := 15) rfl) rfl
theorem us_16 : Cond.selects RX11 yX11_resolve yX11_resolve ∈ Tw := Tw_sel (List.mem_of_getElem? (i := 16) rfl) rfl
theorem us_17 : Cond.selects RX11 yX11_newThing yX11_newThing ∈ Tw := Tw_sel (List.mem_of_getElem? (i := 17) rfl) rfl
theorem us_18 : Cond.selects RX11 yX11_hasThenFunction yX11_hasThenFunction ∈ Tw := Tw_sel (List.mem_of_getElem? (i := 18) rfl) rfl
theorem us_19 : Cond.selects RX11 yX11_requireThenable yX11_requireThenable ∈ Tw := Tw_sel (List.mem_of_getElem? (i := 19) rfl) rfl
theorem us_20 : Cond.selects RX11 yX11_requireHandler yX11_requireHandler ∈ Tw := Tw_sel (List.mem_of_getElem? (i := 20) rfl) rfl
theorem us_21 : Cond.selects RX11 yX11_derive yX11_derive ∈ Tw := Tw_sel (List.mem_of_getElem? (i := 21) rfl) rfl
theorem us_22 : Cond.selects RX11 yX11_attach yX11_attach ∈ Tw := Tw_sel (List.mem_of_getElem? (i := 22) rfl) rfl
theorem us_23 : Cond.selects RX11 yX11_promiseFor yX11_promiseFor ∈ Tw := Tw_sel (List.mem_of_getElem? (i := 23) rfl) rfl
theorem us_24 : Cond.selects RX11 yX11_takeList yX11_takeList ∈ Tw := Tw_sel (List.mem_of_getElem? (i := 24) rfl) rfl
theorem us_25 : Cond.selects RX11 yX11_onFulfilled yX11_onFulfilled ∈ Tw := Tw_sel (List.mem_of_getElem? (i := 25) rfl) rfl
theorem us_26 : Cond.selects RX11 yX11_onRejected yX11_onRejected ∈ Tw := Tw_sel (List.mem_of_getElem? (i := 26) rfl) rfl
theorem us_27 : Cond.selects RX11 yX11_complete yX11_complete ∈ Tw := Tw_sel (List.mem_of_getElem? (i := 27) rfl) rfl
theorem us_28 : Cond.selects RX11 yX11_advance yX11_advance ∈ Tw := Tw_sel (List.mem_of_getElem? (i := 28) rfl) rfl
theorem us_29 : Cond.selects RX11 yX11_requireRoomInLog yX11_requireRoomInLog ∈ Tw := Tw_sel (List.mem_of_getElem? (i := 29) rfl) rfl
theorem us_30 : Cond.selects RX11 yX11_dequeue yX11_dequeue ∈ Tw := Tw_sel (List.mem_of_getElem? (i := 30) rfl) rfl
theorem us_31 : Cond.selects RX11 yX11_doJob yX11_doJob ∈ Tw := Tw_sel (List.mem_of_getElem? (i := 31) rfl) rfl
theorem us_32 : Cond.selects RX11 yX11_hears yX11_hears ∈ Tw := Tw_sel (List.mem_of_getElem? (i := 32) rfl) rfl
theorem us_33 : Cond.selects RX11 yX11_note yX11_note ∈ Tw := Tw_sel (List.mem_of_getElem? (i := 33) rfl) rfl
theorem us_34 : Cond.selects RX11 yX11_callThen yX11_callThen ∈ Tw := Tw_sel (List.mem_of_getElem? (i := 34) rfl) rfl
theorem us_35 : Cond.selects RX11 yX11_doAct yX11_doAct ∈ Tw := Tw_sel (List.mem_of_getElem? (i := 35) rfl) rfl
theorem us_36 : Cond.selects RX11 yX11_finish yX11_finish ∈ Tw := Tw_sel (List.mem_of_getElem? (i := 36) rfl) rfl
theorem us_37 : Cond.selects RX11 yX11_requireThing yX11_requireThing ∈ Tw := Tw_sel (List.mem_of_getElem? (i := 37) rfl) rfl
theorem us_38 : Cond.selects RX11 yX11_requireParts yX11_requireParts ∈ Tw := Tw_sel (List.mem_of_getElem? (i := 38) rfl) rfl
theorem us_39 : Cond.selects RX12 yX12_isFull yX12_isFull ∈ Tw := Tw_sel (List.mem_of_getElem? (i := 39) rfl) rfl
theorem us_40 : Cond.selects RX12 yX12_fails yX12_fails ∈ Tw := Tw_sel (List.mem_of_getElem? (i := 40) rfl) rfl
theorem us_41 : Cond.selects RX12 yX12_capability yX12_capability ∈ Tw := Tw_sel (List.mem_of_getElem? (i := 41) rfl) rfl
theorem us_42 : Cond.selects RX12 yX12_newObject yX12_newObject ∈ Tw := Tw_sel (List.mem_of_getElem? (i := 42) rfl) rfl
theorem us_43 : Cond.selects RX12 yX12_record yX12_record ∈ Tw := Tw_sel (List.mem_of_getElem? (i := 43) rfl) rfl
theorem us_44 : Cond.selects RX12 yX12_isValue yX12_isValue ∈ Tw := Tw_sel (List.mem_of_getElem? (i := 44) rfl) rfl
theorem us_45 : Cond.selects RX12 yX12_isObject yX12_isObject ∈ Tw := Tw_sel (List.mem_of_getElem? (i := 45) rfl) rfl
theorem us_46 : Cond.selects RX12 yX12_isKept yX12_isKept ∈ Tw := Tw_sel (List.mem_of_getElem? (i := 46) rfl) rfl
theorem us_47 : Cond.selects RX12 yX12_isKind yX12_isKind ∈ Tw := Tw_sel (List.mem_of_getElem? (i := 47) rfl) rfl
theorem us_48 : Cond.selects RX12 yX12_reject yX12_reject ∈ Tw := Tw_sel (List.mem_of_getElem? (i := 48) rfl) rfl
theorem us_49 : Cond.selects RX12 yX12_settle yX12_settle ∈ Tw := Tw_sel (List.mem_of_getElem? (i := 49) rfl) rfl
theorem us_50 : Cond.selects RX12 yX12_react yX12_react ∈ Tw := Tw_sel (List.mem_of_getElem? (i := 50) rfl) rfl
theorem us_51 : Cond.selects RX12 yX12_resolve yX12_resolve ∈ Tw := Tw_sel (List.mem_of_getElem? (i := 51) rfl) rfl
theorem us_52 : Cond.selects RX12 yX12_isHandler yX12_isHandler ∈ Tw := Tw_sel (List.mem_of_getElem? (i := 52) rfl) rfl
theorem us_53 : Cond.selects RX12 yX12_then yX12_then ∈ Tw := Tw_sel (List.mem_of_getElem? (i := 53) rfl) rfl
theorem us_54 : Cond.selects RX12 yX12_performThen yX12_performThen ∈ Tw := Tw_sel (List.mem_of_getElem? (i := 54) rfl) rfl
theorem us_55 : Cond.selects RX12 yX12_promiseOf yX12_promiseOf ∈ Tw := Tw_sel (List.mem_of_getElem? (i := 55) rfl) rfl
theorem us_56 : Cond.selects RX12 yX12_group yX12_group ∈ Tw := Tw_sel (List.mem_of_getElem? (i := 56) rfl) rfl
theorem us_57 : Cond.selects RX12 yX12_finish yX12_finish ∈ Tw := Tw_sel (List.mem_of_getElem? (i := 57) rfl) rfl
theorem us_58 : Cond.selects RX12 yX12_array yX12_array ∈ Tw := Tw_sel (List.mem_of_getElem? (i := 58) rfl) rfl
theorem us_59 : Cond.selects RX12 yX12_goOn yX12_goOn ∈ Tw := Tw_sel (List.mem_of_getElem? (i := 59) rfl) rfl
theorem us_60 : Cond.selects RX12 yX12_job yX12_job ∈ Tw := Tw_sel (List.mem_of_getElem? (i := 60) rfl) rfl
theorem us_61 : Cond.selects RX12 yX12_thenJob yX12_thenJob ∈ Tw := Tw_sel (List.mem_of_getElem? (i := 61) rfl) rfl
theorem us_62 : Cond.selects RX12 yX12_note yX12_note ∈ Tw := Tw_sel (List.mem_of_getElem? (i := 62) rfl) rfl
theorem us_63 : Cond.selects RX12 yX12_does yX12_does ∈ Tw := Tw_sel (List.mem_of_getElem? (i := 63) rfl) rfl
theorem us_64 : Cond.selects RX12 yX12_call yX12_call ∈ Tw := Tw_sel (List.mem_of_getElem? (i := 64) rfl) rfl
theorem us_65 : Cond.selects RX12 yX12_handle yX12_handle ∈ Tw := Tw_sel (List.mem_of_getElem? (i := 65) rfl) rfl
theorem us_66 : Cond.selects RX12 yX12_element yX12_element ∈ Tw := Tw_sel (List.mem_of_getElem? (i := 66) rfl) rfl
theorem us_67 : Cond.selects RX12 yX12_last yX12_last ∈ Tw := Tw_sel (List.mem_of_getElem? (i := 67) rfl) rfl
theorem us_68 : Cond.selects RX12 yX12_resume yX12_resume ∈ Tw := Tw_sel (List.mem_of_getElem? (i := 68) rfl) rfl
