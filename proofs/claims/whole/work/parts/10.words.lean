theorem k_0 : gw (.initialized "PortBillsLaw") := ⟨tw_1 (List.mem_of_getElem? (i := 0) (by decide +kernel)), rfl⟩
theorem k_1 : gw (.initialized "PortBills") := ⟨tw_1 (List.mem_of_getElem? (i := 1) (by decide +kernel)), rfl⟩
theorem k_2 : gw (.initialized "PortBills$TariffText") := ⟨tw_1 (List.mem_of_getElem? (i := 2) (by decide +kernel)), rfl⟩
theorem k_3 : gw (.initialized "java/util/AbstractCollection") := ⟨tw_1 (List.mem_of_getElem? (i := 3) (by decide +kernel)), rfl⟩
theorem k_4 : gw (.initialized "java/util/AbstractList") := ⟨tw_1 (List.mem_of_getElem? (i := 4) (by decide +kernel)), rfl⟩
theorem k_5 : gw (.initialized "java/util/ArrayList") := ⟨tw_1 (List.mem_of_getElem? (i := 5) (by decide +kernel)), rfl⟩
theorem k_6 : gw (.initialized "java/util/Arrays") := ⟨tw_1 (List.mem_of_getElem? (i := 6) (by decide +kernel)), rfl⟩
theorem k_7 : gw (.initialized "PortBillsModel") := ⟨tw_1 (List.mem_of_getElem? (i := 7) (by decide +kernel)), rfl⟩
theorem k_8 : gw (.initialized "java/lang/System") := ⟨tw_1 (List.mem_of_getElem? (i := 8) (by decide +kernel)), rfl⟩
theorem k_9 : gw (.initialized "java/lang/Throwable") := ⟨tw_1 (List.mem_of_getElem? (i := 9) (by decide +kernel)), rfl⟩
theorem k_10 : gw (.initialized "java/lang/Exception") := ⟨tw_1 (List.mem_of_getElem? (i := 10) (by decide +kernel)), rfl⟩
theorem k_11 : gw (.initialized "java/lang/RuntimeException") := ⟨tw_1 (List.mem_of_getElem? (i := 11) (by decide +kernel)), rfl⟩
theorem k_12 : gw (.initialized "java/lang/IllegalArgumentException") := ⟨tw_1 (List.mem_of_getElem? (i := 12) (by decide +kernel)), rfl⟩
theorem k_13 : gw (.initialized "java/lang/IllegalStateException") := ⟨tw_1 (List.mem_of_getElem? (i := 13) (by decide +kernel)), rfl⟩
theorem k_14 : gw (.initialized "java/lang/Math") := ⟨tw_1 (List.mem_of_getElem? (i := 14) (by decide +kernel)), rfl⟩
theorem k_15 : gw (.initialized "PortBills$Line") := ⟨tw_1 (List.mem_of_getElem? (i := 15) (by decide +kernel)), rfl⟩
theorem k_16 : gw (.initialized "jdk/internal/util/ArraysSupport") := ⟨tw_1 (List.mem_of_getElem? (i := 16) (by decide +kernel)), rfl⟩
theorem k_17 : gw (.initialized "java/util/Objects") := ⟨tw_1 (List.mem_of_getElem? (i := 17) (by decide +kernel)), rfl⟩
theorem k_18 : gw (.initialized "jdk/internal/util/Preconditions") := ⟨tw_1 (List.mem_of_getElem? (i := 18) (by decide +kernel)), rfl⟩
theorem k_19 : gw (.initialized "java/lang/ArithmeticException") := ⟨tw_1 (List.mem_of_getElem? (i := 19) (by decide +kernel)), rfl⟩
theorem k_20 : gw (.initialized "java/lang/IndexOutOfBoundsException") := ⟨tw_1 (List.mem_of_getElem? (i := 20) (by decide +kernel)), rfl⟩
theorem k_21 : gw (.classLink "PortBillsLaw" 8 "PortBills") := ⟨tw_1 (List.mem_of_getElem? (i := 21) (by decide +kernel)), rfl⟩
theorem k_22 : gw (.instantiable "PortBills" 11) := ⟨tw_1 (List.mem_of_getElem? (i := 22) (by decide +kernel)), rfl⟩
theorem k_23 : gw (.methodLink "PortBillsLaw" 53 y_PB_init) := ⟨tw_1 (List.mem_of_getElem? (i := 23) (by decide +kernel)), rfl⟩
theorem k_24 : gw (.instanceMethod y_PB_init) := ⟨tw_1 (List.mem_of_getElem? (i := 24) (by decide +kernel)), rfl⟩
theorem k_25 : gw (.code y_PB_init b_PB_init 2 none) := ⟨tw_1 (List.mem_of_getElem? (i := 25) (by decide +kernel)), rfl⟩
theorem k_26 : gw (.methodLink "PortBills" 1 ⟨"java/lang/Object", "<init>", "()V"⟩) := ⟨tw_1 (List.mem_of_getElem? (i := 26) (by decide +kernel)), rfl⟩
theorem k_27 : gw (.instanceMethod ⟨"java/lang/Object", "<init>", "()V"⟩) := ⟨tw_1 (List.mem_of_getElem? (i := 27) (by decide +kernel)), rfl⟩
theorem k_28 : gw (.code ⟨"java/lang/Object", "<init>", "()V"⟩ object_method_1_code 1 none) := ⟨tw_1 (List.mem_of_getElem? (i := 28) (by decide +kernel)), rfl⟩
theorem k_29 : gw (.classLink "PortBills" 7 "PortBills$TariffText") := ⟨tw_1 (List.mem_of_getElem? (i := 29) (by decide +kernel)), rfl⟩
theorem k_30 : gw (.instantiable "PortBills$TariffText" 5) := ⟨tw_1 (List.mem_of_getElem? (i := 30) (by decide +kernel)), rfl⟩
theorem kn_31 : gn (.methodLinkNest "PortBills" 9 y_TT_init "PortBills") := ⟨tw_1 (List.mem_of_getElem? (i := 31) (by decide +kernel)), rfl⟩
theorem k_32 : gw (.instanceMethod y_TT_init) := ⟨tw_1 (List.mem_of_getElem? (i := 32) (by decide +kernel)), rfl⟩
theorem k_33 : gw (.code y_TT_init b_TT_init 1 none) := ⟨tw_1 (List.mem_of_getElem? (i := 33) (by decide +kernel)), rfl⟩
theorem k_34 : gw (.methodLink "PortBills$TariffText" 3 ⟨"java/lang/Object", "<init>", "()V"⟩) := ⟨tw_1 (List.mem_of_getElem? (i := 34) (by decide +kernel)), rfl⟩
theorem k_35 : gw (.classLink "PortBills$TariffText" 15 "[[I") := ⟨tw_1 (List.mem_of_getElem? (i := 35) (by decide +kernel)), rfl⟩
theorem kt_36 : (.arrayOver (.array .int) : Cond) ∈ lw_tbl := tw_1 (List.mem_of_getElem? (i := 36) (by decide +kernel))
theorem k_37 : gw (.fieldLink "PortBills$TariffText" 11 "PortBills$TariffText" "signs" "[C") := ⟨tw_1 (List.mem_of_getElem? (i := 37) (by decide +kernel)), rfl⟩
theorem k_38 : gw (.fieldLink "PortBills$TariffText" 20 "PortBills$TariffText" "length" "I") := ⟨tw_1 (List.mem_of_getElem? (i := 38) (by decide +kernel)), rfl⟩
theorem kn_39 : gn (.fieldLinkNest "PortBills" 198 "PortBills$TariffText" "length" "I" "PortBills") := ⟨tw_1 (List.mem_of_getElem? (i := 39) (by decide +kernel)), rfl⟩
theorem k_40 : gw (.fieldLink "PortBills$TariffText" 24 "PortBills$TariffText" "at" "I") := ⟨tw_1 (List.mem_of_getElem? (i := 40) (by decide +kernel)), rfl⟩
theorem k_41 : gw (.fieldLink "PortBills$TariffText" 17 "PortBills$TariffText" "rows" "[[I") := ⟨tw_1 (List.mem_of_getElem? (i := 41) (by decide +kernel)), rfl⟩
theorem kn_42 : gn (.fieldLinkNest "PortBills" 208 "PortBills$TariffText" "rows" "[[I" "PortBills") := ⟨tw_1 (List.mem_of_getElem? (i := 42) (by decide +kernel)), rfl⟩
theorem k_43 : gw (.fieldLink "PortBills$TariffText" 27 "PortBills$TariffText" "kinds" "I") := ⟨tw_1 (List.mem_of_getElem? (i := 43) (by decide +kernel)), rfl⟩
theorem kn_44 : gn (.fieldLinkNest "PortBills" 205 "PortBills$TariffText" "kinds" "I" "PortBills") := ⟨tw_1 (List.mem_of_getElem? (i := 44) (by decide +kernel)), rfl⟩
theorem k_45 : gw (.laysFinal "PortBills$TariffText" "PortBills$TariffText" "signs" "[C") := ⟨tw_1 (List.mem_of_getElem? (i := 45) (by decide +kernel)), rfl⟩
theorem k_46 : gw (.soleField "PortBills$TariffText" "signs") := ⟨tw_1 (List.mem_of_getElem? (i := 46) (by decide +kernel)), rfl⟩
theorem k_47 : gw (.lays "PortBills$TariffText" "PortBills$TariffText" "length" "I") := ⟨tw_1 (List.mem_of_getElem? (i := 47) (by decide +kernel)), rfl⟩
theorem k_48 : gw (.soleField "PortBills$TariffText" "length") := ⟨tw_1 (List.mem_of_getElem? (i := 48) (by decide +kernel)), rfl⟩
theorem k_49 : gw (.lays "PortBills$TariffText" "PortBills$TariffText" "at" "I") := ⟨tw_1 (List.mem_of_getElem? (i := 49) (by decide +kernel)), rfl⟩
theorem k_50 : gw (.soleField "PortBills$TariffText" "at") := ⟨tw_1 (List.mem_of_getElem? (i := 50) (by decide +kernel)), rfl⟩
theorem k_51 : gw (.laysFinal "PortBills$TariffText" "PortBills$TariffText" "rows" "[[I") := ⟨tw_1 (List.mem_of_getElem? (i := 51) (by decide +kernel)), rfl⟩
theorem k_52 : gw (.soleField "PortBills$TariffText" "rows") := ⟨tw_1 (List.mem_of_getElem? (i := 52) (by decide +kernel)), rfl⟩
theorem k_53 : gw (.lays "PortBills$TariffText" "PortBills$TariffText" "kinds" "I") := ⟨tw_1 (List.mem_of_getElem? (i := 53) (by decide +kernel)), rfl⟩
theorem k_54 : gw (.soleField "PortBills$TariffText" "kinds") := ⟨tw_1 (List.mem_of_getElem? (i := 54) (by decide +kernel)), rfl⟩
theorem k_55 : gw (.superclass "PortBills$TariffText" "java/lang/Object") := ⟨tw_1 (List.mem_of_getElem? (i := 55) (by decide +kernel)), rfl⟩
theorem k_56 : gw (.arrayClass .char) := ⟨tw_1 (List.mem_of_getElem? (i := 56) (by decide +kernel)), rfl⟩
theorem k_57 : gw (.arrayClass .int) := ⟨tw_1 (List.mem_of_getElem? (i := 57) (by decide +kernel)), rfl⟩
theorem k_58 : gw (.classLink "PortBills" 16 "[[I") := ⟨tw_1 (List.mem_of_getElem? (i := 58) (by decide +kernel)), rfl⟩
theorem k_59 : gw (.classLink "PortBills" 37 "java/util/ArrayList") := ⟨tw_1 (List.mem_of_getElem? (i := 59) (by decide +kernel)), rfl⟩
theorem k_60 : gw (.instantiable "java/util/ArrayList" 3) := ⟨tw_1 (List.mem_of_getElem? (i := 60) (by decide +kernel)), rfl⟩
theorem k_61 : gw (.methodLink "PortBills" 39 y_AL_init) := ⟨tw_1 (List.mem_of_getElem? (i := 61) (by decide +kernel)), rfl⟩
theorem k_62 : gw (.instanceMethod y_AL_init) := ⟨tw_1 (List.mem_of_getElem? (i := 62) (by decide +kernel)), rfl⟩
theorem k_63 : gw (.code y_AL_init b_AL_init 1 none) := ⟨tw_1 (List.mem_of_getElem? (i := 63) (by decide +kernel)), rfl⟩
theorem k_64 : gw (.methodLink "java/util/ArrayList" 1 y_AB_init) := ⟨tw_1 (List.mem_of_getElem? (i := 64) (by decide +kernel)), rfl⟩
theorem k_65 : gw (.instanceMethod y_AB_init) := ⟨tw_1 (List.mem_of_getElem? (i := 65) (by decide +kernel)), rfl⟩
theorem k_66 : gw (.code y_AB_init b_AB_init 1 none) := ⟨tw_1 (List.mem_of_getElem? (i := 66) (by decide +kernel)), rfl⟩
theorem k_67 : gw (.methodLink "java/util/AbstractList" 1 y_AC_init) := ⟨tw_1 (List.mem_of_getElem? (i := 67) (by decide +kernel)), rfl⟩
theorem k_68 : gw (.instanceMethod y_AC_init) := ⟨tw_1 (List.mem_of_getElem? (i := 68) (by decide +kernel)), rfl⟩
theorem k_69 : gw (.code y_AC_init b_AC_init 1 none) := ⟨tw_1 (List.mem_of_getElem? (i := 69) (by decide +kernel)), rfl⟩
theorem k_70 : gw (.methodLink "java/util/AbstractCollection" 1 ⟨"java/lang/Object", "<init>", "()V"⟩) := ⟨tw_1 (List.mem_of_getElem? (i := 70) (by decide +kernel)), rfl⟩
theorem k_71 : gw (.fieldLink "java/util/ArrayList" 39 "java/util/ArrayList" "DEFAULTCAPACITY_EMPTY_ELEMENTDATA" "[Ljava/lang/Object;") := ⟨tw_1 (List.mem_of_getElem? (i := 71) (by decide +kernel)), rfl⟩
theorem kt_72 : (.laysStatic "java/util/ArrayList" "DEFAULTCAPACITY_EMPTY_ELEMENTDATA" "[Ljava/lang/Object;" : Cond) ∈ lw_tbl := tw_1 (List.mem_of_getElem? (i := 72) (by decide +kernel))
theorem k_73 : gw (.fieldLink "java/util/ArrayList" 9 "java/util/ArrayList" "elementData" "[Ljava/lang/Object;") := ⟨tw_1 (List.mem_of_getElem? (i := 73) (by decide +kernel)), rfl⟩
theorem k_74 : gw (.fieldLink "java/util/ArrayList" 48 "java/util/ArrayList" "size" "I") := ⟨tw_1 (List.mem_of_getElem? (i := 74) (by decide +kernel)), rfl⟩
theorem k_75 : gw (.fieldLink "java/util/AbstractList" 7 "java/util/AbstractList" "modCount" "I") := ⟨tw_1 (List.mem_of_getElem? (i := 75) (by decide +kernel)), rfl⟩
theorem k_76 : gw (.fieldLink "java/util/ArrayList" 63 "java/util/ArrayList" "modCount" "I") := ⟨tw_1 (List.mem_of_getElem? (i := 76) (by decide +kernel)), rfl⟩
theorem k_77 : gw (.sameField "java/util/ArrayList" "java/util/AbstractList" "modCount" "I") := ⟨tw_1 (List.mem_of_getElem? (i := 77) (by decide +kernel)), rfl⟩
theorem k_78 : gw (.lays "java/util/ArrayList" "java/util/ArrayList" "elementData" "[Ljava/lang/Object;") := ⟨tw_1 (List.mem_of_getElem? (i := 78) (by decide +kernel)), rfl⟩
theorem k_79 : gw (.soleField "java/util/ArrayList" "elementData") := ⟨tw_1 (List.mem_of_getElem? (i := 79) (by decide +kernel)), rfl⟩
theorem k_80 : gw (.lays "java/util/ArrayList" "java/util/ArrayList" "size" "I") := ⟨tw_1 (List.mem_of_getElem? (i := 80) (by decide +kernel)), rfl⟩
theorem k_81 : gw (.soleField "java/util/ArrayList" "size") := ⟨tw_1 (List.mem_of_getElem? (i := 81) (by decide +kernel)), rfl⟩
theorem k_82 : gw (.lays "java/util/ArrayList" "java/util/AbstractList" "modCount" "I") := ⟨tw_1 (List.mem_of_getElem? (i := 82) (by decide +kernel)), rfl⟩
theorem k_83 : gw (.soleField "java/util/AbstractList" "modCount") := ⟨tw_1 (List.mem_of_getElem? (i := 83) (by decide +kernel)), rfl⟩
theorem k_84 : gw (.superclass "java/util/ArrayList" "java/util/AbstractList") := ⟨tw_1 (List.mem_of_getElem? (i := 84) (by decide +kernel)), rfl⟩
theorem k_85 : gw (.methodLink "PortBills" 48 y_AR_fill) := ⟨tw_1 (List.mem_of_getElem? (i := 85) (by decide +kernel)), rfl⟩
theorem k_86 : gw (.static y_AR_fill) := ⟨tw_1 (List.mem_of_getElem? (i := 86) (by decide +kernel)), rfl⟩
theorem k_87 : gw (.code y_AR_fill b_AR_fill 4 none) := ⟨tw_1 (List.mem_of_getElem? (i := 87) (by decide +kernel)), rfl⟩
theorem k_88 : gw (.fieldLink "PortBills" 10 "PortBills" "text" "LPortBills$TariffText;") := ⟨tw_1 (List.mem_of_getElem? (i := 88) (by decide +kernel)), rfl⟩
theorem k_89 : gw (.fieldLink "PortBills" 18 "PortBills" "tariffs" "[[I") := ⟨tw_1 (List.mem_of_getElem? (i := 89) (by decide +kernel)), rfl⟩
theorem k_90 : gw (.fieldLink "PortBills" 201 "PortBills" "kindsWithTariff" "I") := ⟨tw_1 (List.mem_of_getElem? (i := 90) (by decide +kernel)), rfl⟩
theorem k_91 : gw (.fieldLink "PortBills" 21 "PortBills" "waitingUnits" "[[I") := ⟨tw_1 (List.mem_of_getElem? (i := 91) (by decide +kernel)), rfl⟩
theorem k_92 : gw (.fieldLink "PortBills" 24 "PortBills" "waitingEvents" "[I") := ⟨tw_1 (List.mem_of_getElem? (i := 92) (by decide +kernel)), rfl⟩
theorem k_93 : gw (.fieldLink "PortBills" 87 "PortBills" "waitingInAll" "I") := ⟨tw_1 (List.mem_of_getElem? (i := 93) (by decide +kernel)), rfl⟩
theorem k_94 : gw (.fieldLink "PortBills" 28 "PortBills" "discounts" "[[I") := ⟨tw_1 (List.mem_of_getElem? (i := 94) (by decide +kernel)), rfl⟩
theorem k_95 : gw (.fieldLink "PortBills" 31 "PortBills" "kept" "[[I") := ⟨tw_1 (List.mem_of_getElem? (i := 95) (by decide +kernel)), rfl⟩
theorem k_96 : gw (.fieldLink "PortBills" 34 "PortBills" "keptOf" "[[I") := ⟨tw_1 (List.mem_of_getElem? (i := 96) (by decide +kernel)), rfl⟩
theorem k_97 : gw (.fieldLink "PortBills" 40 "PortBills" "lines" "Ljava/util/ArrayList;") := ⟨tw_1 (List.mem_of_getElem? (i := 97) (by decide +kernel)), rfl⟩
theorem k_98 : gw (.fieldLink "PortBills" 44 "PortBills" "paid" "[J") := ⟨tw_1 (List.mem_of_getElem? (i := 98) (by decide +kernel)), rfl⟩
theorem k_99 : gw (.laysFinal "PortBills" "PortBills" "text" "LPortBills$TariffText;") := ⟨tw_1 (List.mem_of_getElem? (i := 99) (by decide +kernel)), rfl⟩
theorem k_100 : gw (.soleField "PortBills" "text") := ⟨tw_1 (List.mem_of_getElem? (i := 100) (by decide +kernel)), rfl⟩
theorem k_101 : gw (.laysFinal "PortBills" "PortBills" "tariffs" "[[I") := ⟨tw_1 (List.mem_of_getElem? (i := 101) (by decide +kernel)), rfl⟩
theorem k_102 : gw (.soleField "PortBills" "tariffs") := ⟨tw_1 (List.mem_of_getElem? (i := 102) (by decide +kernel)), rfl⟩
theorem k_103 : gw (.lays "PortBills" "PortBills" "kindsWithTariff" "I") := ⟨tw_1 (List.mem_of_getElem? (i := 103) (by decide +kernel)), rfl⟩
theorem k_104 : gw (.soleField "PortBills" "kindsWithTariff") := ⟨tw_1 (List.mem_of_getElem? (i := 104) (by decide +kernel)), rfl⟩
theorem k_105 : gw (.laysFinal "PortBills" "PortBills" "waitingUnits" "[[I") := ⟨tw_1 (List.mem_of_getElem? (i := 105) (by decide +kernel)), rfl⟩
theorem k_106 : gw (.soleField "PortBills" "waitingUnits") := ⟨tw_1 (List.mem_of_getElem? (i := 106) (by decide +kernel)), rfl⟩
theorem k_107 : gw (.laysFinal "PortBills" "PortBills" "waitingEvents" "[I") := ⟨tw_1 (List.mem_of_getElem? (i := 107) (by decide +kernel)), rfl⟩
theorem k_108 : gw (.soleField "PortBills" "waitingEvents") := ⟨tw_1 (List.mem_of_getElem? (i := 108) (by decide +kernel)), rfl⟩
theorem k_109 : gw (.lays "PortBills" "PortBills" "waitingInAll" "I") := ⟨tw_1 (List.mem_of_getElem? (i := 109) (by decide +kernel)), rfl⟩
theorem k_110 : gw (.soleField "PortBills" "waitingInAll") := ⟨tw_1 (List.mem_of_getElem? (i := 110) (by decide +kernel)), rfl⟩
theorem k_111 : gw (.laysFinal "PortBills" "PortBills" "discounts" "[[I") := ⟨tw_1 (List.mem_of_getElem? (i := 111) (by decide +kernel)), rfl⟩
theorem k_112 : gw (.soleField "PortBills" "discounts") := ⟨tw_1 (List.mem_of_getElem? (i := 112) (by decide +kernel)), rfl⟩
theorem k_113 : gw (.laysFinal "PortBills" "PortBills" "kept" "[[I") := ⟨tw_1 (List.mem_of_getElem? (i := 113) (by decide +kernel)), rfl⟩
theorem k_114 : gw (.soleField "PortBills" "kept") := ⟨tw_1 (List.mem_of_getElem? (i := 114) (by decide +kernel)), rfl⟩
theorem k_115 : gw (.laysFinal "PortBills" "PortBills" "keptOf" "[[I") := ⟨tw_1 (List.mem_of_getElem? (i := 115) (by decide +kernel)), rfl⟩
theorem k_116 : gw (.soleField "PortBills" "keptOf") := ⟨tw_1 (List.mem_of_getElem? (i := 116) (by decide +kernel)), rfl⟩
theorem k_117 : gw (.laysFinal "PortBills" "PortBills" "lines" "Ljava/util/ArrayList;") := ⟨tw_1 (List.mem_of_getElem? (i := 117) (by decide +kernel)), rfl⟩
theorem k_118 : gw (.soleField "PortBills" "lines") := ⟨tw_1 (List.mem_of_getElem? (i := 118) (by decide +kernel)), rfl⟩
theorem k_119 : gw (.laysFinal "PortBills" "PortBills" "paid" "[J") := ⟨tw_1 (List.mem_of_getElem? (i := 119) (by decide +kernel)), rfl⟩
theorem k_120 : gw (.soleField "PortBills" "paid") := ⟨tw_1 (List.mem_of_getElem? (i := 120) (by decide +kernel)), rfl⟩
theorem k_121 : gw (.superclass "PortBills" "java/lang/Object") := ⟨tw_1 (List.mem_of_getElem? (i := 121) (by decide +kernel)), rfl⟩
theorem k_122 : gw (.arrayClass .long) := ⟨tw_1 (List.mem_of_getElem? (i := 122) (by decide +kernel)), rfl⟩
theorem k_123 : gw (.methodLink "PortBillsLaw" 57 y_PB_sign) := ⟨tw_1 (List.mem_of_getElem? (i := 123) (by decide +kernel)), rfl⟩
theorem k_124 : gw (.instanceMethod y_PB_sign) := ⟨tw_1 (List.mem_of_getElem? (i := 124) (by decide +kernel)), rfl⟩
theorem k_125 : gw (.selects "PortBills" y_PB_sign y_PB_sign) := ⟨tw_1 (List.mem_of_getElem? (i := 125) (by decide +kernel)), rfl⟩
theorem k_126 : gw (.code y_PB_sign b_PB_sign 2 (some .boolean)) := ⟨tw_1 (List.mem_of_getElem? (i := 126) (by decide +kernel)), rfl⟩
theorem kn_127 : gn (.methodLinkNest "PortBills" 54 y_TT_takes "PortBills") := ⟨tw_1 (List.mem_of_getElem? (i := 127) (by decide +kernel)), rfl⟩
theorem kt_128 : (.privateMethod y_TT_takes : Cond) ∈ lw_tbl := tw_1 (List.mem_of_getElem? (i := 128) (by decide +kernel))
theorem k_129 : gw (.instanceMethod y_TT_takes) := ⟨tw_1 (List.mem_of_getElem? (i := 129) (by decide +kernel)), rfl⟩
theorem k_130 : gw (.code y_TT_takes b_TT_takes 2 (some .boolean)) := ⟨tw_1 (List.mem_of_getElem? (i := 130) (by decide +kernel)), rfl⟩
theorem k_131 : gw (.methodLink "PortBillsLaw" 62 y_PB_read) := ⟨tw_1 (List.mem_of_getElem? (i := 131) (by decide +kernel)), rfl⟩
theorem k_132 : gw (.instanceMethod y_PB_read) := ⟨tw_1 (List.mem_of_getElem? (i := 132) (by decide +kernel)), rfl⟩
theorem k_133 : gw (.selects "PortBills" y_PB_read y_PB_read) := ⟨tw_1 (List.mem_of_getElem? (i := 133) (by decide +kernel)), rfl⟩
theorem k_134 : gw (.code y_PB_read b_PB_read 2 (some .int)) := ⟨tw_1 (List.mem_of_getElem? (i := 134) (by decide +kernel)), rfl⟩
theorem kn_135 : gn (.methodLinkNest "PortBills" 58 y_TT_readRows "PortBills") := ⟨tw_1 (List.mem_of_getElem? (i := 135) (by decide +kernel)), rfl⟩
theorem kt_136 : (.privateMethod y_TT_readRows : Cond) ∈ lw_tbl := tw_1 (List.mem_of_getElem? (i := 136) (by decide +kernel))
theorem k_137 : gw (.instanceMethod y_TT_readRows) := ⟨tw_1 (List.mem_of_getElem? (i := 137) (by decide +kernel)), rfl⟩
theorem k_138 : gw (.code y_TT_readRows b_TT_readRows 2 (some .int)) := ⟨tw_1 (List.mem_of_getElem? (i := 138) (by decide +kernel)), rfl⟩
theorem k_139 : gw (.methodLink "PortBills$TariffText" 30 y_TT_readRow) := ⟨tw_1 (List.mem_of_getElem? (i := 139) (by decide +kernel)), rfl⟩
theorem kt_140 : (.privateMethod y_TT_readRow : Cond) ∈ lw_tbl := tw_1 (List.mem_of_getElem? (i := 140) (by decide +kernel))
theorem k_141 : gw (.instanceMethod y_TT_readRow) := ⟨tw_1 (List.mem_of_getElem? (i := 141) (by decide +kernel)), rfl⟩
theorem k_142 : gw (.code y_TT_readRow b_TT_readRow 3 (some .boolean)) := ⟨tw_1 (List.mem_of_getElem? (i := 142) (by decide +kernel)), rfl⟩
theorem k_143 : gw (.methodLink "PortBills$TariffText" 34 y_TT_next) := ⟨tw_1 (List.mem_of_getElem? (i := 143) (by decide +kernel)), rfl⟩
theorem kt_144 : (.privateMethod y_TT_next : Cond) ∈ lw_tbl := tw_1 (List.mem_of_getElem? (i := 144) (by decide +kernel))
theorem k_145 : gw (.instanceMethod y_TT_next) := ⟨tw_1 (List.mem_of_getElem? (i := 145) (by decide +kernel)), rfl⟩
theorem k_146 : gw (.code y_TT_next b_TT_next 1 (some .char)) := ⟨tw_1 (List.mem_of_getElem? (i := 146) (by decide +kernel)), rfl⟩
theorem kn_147 : gn (.methodLinkNest "PortBills$TariffText" 38 y_PB_isKind "PortBills") := ⟨tw_1 (List.mem_of_getElem? (i := 147) (by decide +kernel)), rfl⟩
theorem k_148 : gw (.static y_PB_isKind) := ⟨tw_1 (List.mem_of_getElem? (i := 148) (by decide +kernel)), rfl⟩
theorem k_149 : gw (.code y_PB_isKind b_PB_isKind 1 (some .boolean)) := ⟨tw_1 (List.mem_of_getElem? (i := 149) (by decide +kernel)), rfl⟩
theorem k_150 : gw (.methodLink "PortBills$TariffText" 42 y_TT_readNumber) := ⟨tw_1 (List.mem_of_getElem? (i := 150) (by decide +kernel)), rfl⟩
theorem kt_151 : (.privateMethod y_TT_readNumber : Cond) ∈ lw_tbl := tw_1 (List.mem_of_getElem? (i := 151) (by decide +kernel))
theorem k_152 : gw (.instanceMethod y_TT_readNumber) := ⟨tw_1 (List.mem_of_getElem? (i := 152) (by decide +kernel)), rfl⟩
theorem k_153 : gw (.code y_TT_readNumber b_TT_readNumber 6 (some .boolean)) := ⟨tw_1 (List.mem_of_getElem? (i := 153) (by decide +kernel)), rfl⟩
theorem k_154 : gw (.methodLink "PortBills$TariffText" 50 y_TT_isDigit) := ⟨tw_1 (List.mem_of_getElem? (i := 154) (by decide +kernel)), rfl⟩
theorem k_155 : gw (.static y_TT_isDigit) := ⟨tw_1 (List.mem_of_getElem? (i := 155) (by decide +kernel)), rfl⟩
theorem k_156 : gw (.code y_TT_isDigit b_TT_isDigit 1 (some .boolean)) := ⟨tw_1 (List.mem_of_getElem? (i := 156) (by decide +kernel)), rfl⟩
theorem k_157 : gw (.methodLink "PortBills$TariffText" 46 y_TT_passes) := ⟨tw_1 (List.mem_of_getElem? (i := 157) (by decide +kernel)), rfl⟩
theorem kt_158 : (.privateMethod y_TT_passes : Cond) ∈ lw_tbl := tw_1 (List.mem_of_getElem? (i := 158) (by decide +kernel))
theorem k_159 : gw (.instanceMethod y_TT_passes) := ⟨tw_1 (List.mem_of_getElem? (i := 159) (by decide +kernel)), rfl⟩
theorem k_160 : gw (.code y_TT_passes b_TT_passes 2 (some .boolean)) := ⟨tw_1 (List.mem_of_getElem? (i := 160) (by decide +kernel)), rfl⟩
theorem k_161 : gw (.methodLink "PortBills" 62 y_PB_takeOverTariffs) := ⟨tw_1 (List.mem_of_getElem? (i := 161) (by decide +kernel)), rfl⟩
theorem kt_162 : (.privateMethod y_PB_takeOverTariffs : Cond) ∈ lw_tbl := tw_1 (List.mem_of_getElem? (i := 162) (by decide +kernel))
theorem k_163 : gw (.instanceMethod y_PB_takeOverTariffs) := ⟨tw_1 (List.mem_of_getElem? (i := 163) (by decide +kernel)), rfl⟩
theorem k_164 : gw (.code y_PB_takeOverTariffs b_PB_takeOverTariffs 2 none) := ⟨tw_1 (List.mem_of_getElem? (i := 164) (by decide +kernel)), rfl⟩
theorem k_165 : gw (.methodLink "PortBills" 211 ⟨"java/lang/System", "arraycopy", "(Ljava/lang/Object;ILjava/lang/Object;II)V"⟩) := ⟨tw_1 (List.mem_of_getElem? (i := 165) (by decide +kernel)), rfl⟩
theorem k_166 : gw (.static ⟨"java/lang/System", "arraycopy", "(Ljava/lang/Object;ILjava/lang/Object;II)V"⟩) := ⟨tw_1 (List.mem_of_getElem? (i := 166) (by decide +kernel)), rfl⟩
theorem k_167 : gw (.native ⟨"java/lang/System", "arraycopy", "(Ljava/lang/Object;ILjava/lang/Object;II)V"⟩) := ⟨tw_1 (List.mem_of_getElem? (i := 167) (by decide +kernel)), rfl⟩
theorem kn_168 : gn (.methodLinkNest "PortBills" 65 y_TT_clear "PortBills") := ⟨tw_1 (List.mem_of_getElem? (i := 168) (by decide +kernel)), rfl⟩
theorem kt_169 : (.privateMethod y_TT_clear : Cond) ∈ lw_tbl := tw_1 (List.mem_of_getElem? (i := 169) (by decide +kernel))
theorem k_170 : gw (.instanceMethod y_TT_clear) := ⟨tw_1 (List.mem_of_getElem? (i := 170) (by decide +kernel)), rfl⟩
theorem k_171 : gw (.code y_TT_clear b_TT_clear 1 none) := ⟨tw_1 (List.mem_of_getElem? (i := 171) (by decide +kernel)), rfl⟩
theorem k_172 : gw (.methodLink "PortBillsLaw" 80 y_PB_discount) := ⟨tw_1 (List.mem_of_getElem? (i := 172) (by decide +kernel)), rfl⟩
theorem k_173 : gw (.instanceMethod y_PB_discount) := ⟨tw_1 (List.mem_of_getElem? (i := 173) (by decide +kernel)), rfl⟩
theorem k_174 : gw (.selects "PortBills" y_PB_discount y_PB_discount) := ⟨tw_1 (List.mem_of_getElem? (i := 174) (by decide +kernel)), rfl⟩
theorem k_175 : gw (.code y_PB_discount b_PB_discount 5 (some .boolean)) := ⟨tw_1 (List.mem_of_getElem? (i := 175) (by decide +kernel)), rfl⟩
theorem k_176 : gw (.methodLink "PortBills" 81 y_PB_isCall) := ⟨tw_1 (List.mem_of_getElem? (i := 176) (by decide +kernel)), rfl⟩
theorem k_177 : gw (.static y_PB_isCall) := ⟨tw_1 (List.mem_of_getElem? (i := 177) (by decide +kernel)), rfl⟩
theorem k_178 : gw (.code y_PB_isCall b_PB_isCall 1 (some .boolean)) := ⟨tw_1 (List.mem_of_getElem? (i := 178) (by decide +kernel)), rfl⟩
theorem k_179 : gw (.methodLink "PortBills" 68 y_PB_isKind) := ⟨tw_1 (List.mem_of_getElem? (i := 179) (by decide +kernel)), rfl⟩
theorem k_180 : gw (.methodLink "PortBillsLaw" 112 y_PB_count) := ⟨tw_1 (List.mem_of_getElem? (i := 180) (by decide +kernel)), rfl⟩
theorem k_181 : gw (.instanceMethod y_PB_count) := ⟨tw_1 (List.mem_of_getElem? (i := 181) (by decide +kernel)), rfl⟩
theorem k_182 : gw (.selects "PortBills" y_PB_count y_PB_count) := ⟨tw_1 (List.mem_of_getElem? (i := 182) (by decide +kernel)), rfl⟩
theorem k_183 : gw (.code y_PB_count b_PB_count 2 (some .int)) := ⟨tw_1 (List.mem_of_getElem? (i := 183) (by decide +kernel)), rfl⟩
theorem k_184 : gw (.methodLink "PortBills" 195 y_PB_linesOf) := ⟨tw_1 (List.mem_of_getElem? (i := 184) (by decide +kernel)), rfl⟩
theorem kt_185 : (.privateMethod y_PB_linesOf : Cond) ∈ lw_tbl := tw_1 (List.mem_of_getElem? (i := 185) (by decide +kernel))
theorem k_186 : gw (.instanceMethod y_PB_linesOf) := ⟨tw_1 (List.mem_of_getElem? (i := 186) (by decide +kernel)), rfl⟩
theorem k_187 : gw (.code y_PB_linesOf b_PB_linesOf 4 (some .int)) := ⟨tw_1 (List.mem_of_getElem? (i := 187) (by decide +kernel)), rfl⟩
theorem k_188 : gw (.methodLink "PortBills" 109 y_AL_size) := ⟨tw_1 (List.mem_of_getElem? (i := 188) (by decide +kernel)), rfl⟩
theorem k_189 : gw (.instanceMethod y_AL_size) := ⟨tw_1 (List.mem_of_getElem? (i := 189) (by decide +kernel)), rfl⟩
theorem k_190 : gw (.selects "java/util/ArrayList" y_AL_size y_AL_size) := ⟨tw_1 (List.mem_of_getElem? (i := 190) (by decide +kernel)), rfl⟩
theorem k_191 : gw (.code y_AL_size b_AL_size 1 (some .int)) := ⟨tw_1 (List.mem_of_getElem? (i := 191) (by decide +kernel)), rfl⟩
theorem k_192 : gw (.methodLink "PortBills" 135 y_AL_get) := ⟨tw_1 (List.mem_of_getElem? (i := 192) (by decide +kernel)), rfl⟩
theorem k_193 : gw (.instanceMethod y_AL_get) := ⟨tw_1 (List.mem_of_getElem? (i := 193) (by decide +kernel)), rfl⟩
theorem k_194 : gw (.selects "java/util/ArrayList" y_AL_get y_AL_get) := ⟨tw_1 (List.mem_of_getElem? (i := 194) (by decide +kernel)), rfl⟩
theorem k_195 : gw (.code y_AL_get b_AL_get 2 (some (.object "java/lang/Object"))) := ⟨tw_1 (List.mem_of_getElem? (i := 195) (by decide +kernel)), rfl⟩
theorem k_196 : gw (.methodLink "java/util/ArrayList" 118 y_OB_checkIndex) := ⟨tw_1 (List.mem_of_getElem? (i := 196) (by decide +kernel)), rfl⟩
theorem k_197 : gw (.static y_OB_checkIndex) := ⟨tw_1 (List.mem_of_getElem? (i := 197) (by decide +kernel)), rfl⟩
theorem k_198 : gw (.code y_OB_checkIndex b_OB_checkIndex 2 (some .int)) := ⟨tw_1 (List.mem_of_getElem? (i := 198) (by decide +kernel)), rfl⟩
theorem k_199 : gw (.methodLink "java/util/Objects" 105 y_PC_checkIndex) := ⟨tw_1 (List.mem_of_getElem? (i := 199) (by decide +kernel)), rfl⟩
theorem k_200 : gw (.static y_PC_checkIndex) := ⟨tw_1 (List.mem_of_getElem? (i := 200) (by decide +kernel)), rfl⟩
theorem k_201 : gw (.code y_PC_checkIndex b_PC_checkIndex 3 (some .int)) := ⟨tw_1 (List.mem_of_getElem? (i := 201) (by decide +kernel)), rfl⟩
theorem k_202 : gw (.methodLink "java/util/ArrayList" 123 y_AL_elementData) := ⟨tw_1 (List.mem_of_getElem? (i := 202) (by decide +kernel)), rfl⟩
theorem k_203 : gw (.instanceMethod y_AL_elementData) := ⟨tw_1 (List.mem_of_getElem? (i := 203) (by decide +kernel)), rfl⟩
theorem k_204 : gw (.selects "java/util/ArrayList" y_AL_elementData y_AL_elementData) := ⟨tw_1 (List.mem_of_getElem? (i := 204) (by decide +kernel)), rfl⟩
theorem k_205 : gw (.code y_AL_elementData b_AL_elementData 2 (some (.object "java/lang/Object"))) := ⟨tw_1 (List.mem_of_getElem? (i := 205) (by decide +kernel)), rfl⟩
theorem k_206 : gw (.classLink "PortBills" 139 "PortBills$Line") := ⟨tw_1 (List.mem_of_getElem? (i := 206) (by decide +kernel)), rfl⟩
theorem k_207 : gw (.methodLink "PortBillsLaw" 67 y_LW_tariff) := ⟨tw_1 (List.mem_of_getElem? (i := 207) (by decide +kernel)), rfl⟩
theorem k_208 : gw (.static y_LW_tariff) := ⟨tw_1 (List.mem_of_getElem? (i := 208) (by decide +kernel)), rfl⟩
theorem k_209 : gw (.codeWith y_LW_tariff b_LW_tariff 5 (some .int) [(0, 10, 13, 13)]) := ⟨tw_1 (List.mem_of_getElem? (i := 209) (by decide +kernel)), rfl⟩
theorem k_210 : gw (.classLink "PortBillsLaw" 13 "java/lang/IllegalArgumentException") := ⟨tw_1 (List.mem_of_getElem? (i := 210) (by decide +kernel)), rfl⟩
theorem k_211 : gw (.methodLink "PortBillsLaw" 7 y_PB_tariff) := ⟨tw_1 (List.mem_of_getElem? (i := 211) (by decide +kernel)), rfl⟩
theorem k_212 : gw (.instanceMethod y_PB_tariff) := ⟨tw_1 (List.mem_of_getElem? (i := 212) (by decide +kernel)), rfl⟩
theorem k_213 : gw (.selects "PortBills" y_PB_tariff y_PB_tariff) := ⟨tw_1 (List.mem_of_getElem? (i := 213) (by decide +kernel)), rfl⟩
theorem k_214 : gw (.code y_PB_tariff b_PB_tariff 3 (some .int)) := ⟨tw_1 (List.mem_of_getElem? (i := 214) (by decide +kernel)), rfl⟩
theorem k_215 : gw (.classLink "PortBills" 71 "java/lang/IllegalArgumentException") := ⟨tw_1 (List.mem_of_getElem? (i := 215) (by decide +kernel)), rfl⟩
theorem k_216 : gw (.instantiable "java/lang/IllegalArgumentException" 6) := ⟨tw_1 (List.mem_of_getElem? (i := 216) (by decide +kernel)), rfl⟩
theorem kt_217 : (.castable "java/lang/IllegalArgumentException" "java/lang/IllegalArgumentException" : Cond) ∈ lw_tbl := tw_1 (List.mem_of_getElem? (i := 217) (by decide +kernel))
theorem kt_218 : (.declares ⟨"java/lang/RuntimeException", "<init>", "()V"⟩ : Cond) ∈ lw_tbl := tw_1 (List.mem_of_getElem? (i := 218) (by decide +kernel))
theorem kt_219 : (.declares ⟨"java/lang/RuntimeException", "<init>", "(Ljava/lang/String;)V"⟩ : Cond) ∈ lw_tbl := tw_1 (List.mem_of_getElem? (i := 219) (by decide +kernel))
theorem kt_220 : (.declares ⟨"java/lang/Exception", "<init>", "()V"⟩ : Cond) ∈ lw_tbl := tw_1 (List.mem_of_getElem? (i := 220) (by decide +kernel))
theorem kt_221 : (.declares ⟨"java/lang/Exception", "<init>", "(Ljava/lang/String;)V"⟩ : Cond) ∈ lw_tbl := tw_1 (List.mem_of_getElem? (i := 221) (by decide +kernel))
theorem kt_222 : (.declares ⟨"java/lang/Throwable", "<init>", "()V"⟩ : Cond) ∈ lw_tbl := tw_1 (List.mem_of_getElem? (i := 222) (by decide +kernel))
theorem kt_223 : (.declares ⟨"java/lang/Throwable", "<init>", "(Ljava/lang/String;)V"⟩ : Cond) ∈ lw_tbl := tw_1 (List.mem_of_getElem? (i := 223) (by decide +kernel))
theorem k_224 : gw (.selects "java/lang/IllegalArgumentException" ⟨"java/lang/Throwable", "fillInStackTrace", "(I)Ljava/lang/Throwable;"⟩ ⟨"java/lang/Throwable", "fillInStackTrace", "(I)Ljava/lang/Throwable;"⟩) := ⟨tw_1 (List.mem_of_getElem? (i := 224) (by decide +kernel)), rfl⟩
theorem k_225 : gw (.selects "java/lang/IllegalArgumentException" ⟨"java/lang/Throwable", "fillInStackTrace", "()Ljava/lang/Throwable;"⟩ ⟨"java/lang/Throwable", "fillInStackTrace", "()Ljava/lang/Throwable;"⟩) := ⟨tw_1 (List.mem_of_getElem? (i := 225) (by decide +kernel)), rfl⟩
theorem k_226 : gw (.lays "java/lang/IllegalArgumentException" "java/lang/Throwable" "cause" "Ljava/lang/Throwable;") := ⟨tw_1 (List.mem_of_getElem? (i := 226) (by decide +kernel)), rfl⟩
theorem k_227 : gw (.lays "java/lang/Throwable" "java/lang/Throwable" "cause" "Ljava/lang/Throwable;") := ⟨tw_1 (List.mem_of_getElem? (i := 227) (by decide +kernel)), rfl⟩
theorem k_228 : gw (.lays "java/lang/IllegalArgumentException" "java/lang/Throwable" "stackTrace" "[Ljava/lang/StackTraceElement;") := ⟨tw_1 (List.mem_of_getElem? (i := 228) (by decide +kernel)), rfl⟩
theorem k_229 : gw (.lays "java/lang/Throwable" "java/lang/Throwable" "stackTrace" "[Ljava/lang/StackTraceElement;") := ⟨tw_1 (List.mem_of_getElem? (i := 229) (by decide +kernel)), rfl⟩
theorem k_230 : gw (.lays "java/lang/IllegalArgumentException" "java/lang/Throwable" "suppressedExceptions" "Ljava/util/List;") := ⟨tw_1 (List.mem_of_getElem? (i := 230) (by decide +kernel)), rfl⟩
theorem k_231 : gw (.lays "java/lang/Throwable" "java/lang/Throwable" "suppressedExceptions" "Ljava/util/List;") := ⟨tw_1 (List.mem_of_getElem? (i := 231) (by decide +kernel)), rfl⟩
theorem k_232 : gw (.lays "java/lang/IllegalArgumentException" "java/lang/Throwable" "detailMessage" "Ljava/lang/String;") := ⟨tw_1 (List.mem_of_getElem? (i := 232) (by decide +kernel)), rfl⟩
theorem k_233 : gw (.lays "java/lang/Throwable" "java/lang/Throwable" "detailMessage" "Ljava/lang/String;") := ⟨tw_1 (List.mem_of_getElem? (i := 233) (by decide +kernel)), rfl⟩
theorem k_234 : gw (.lays "java/lang/IllegalArgumentException" "java/lang/Throwable" "backtrace" "Ljava/lang/Object;") := ⟨tw_1 (List.mem_of_getElem? (i := 234) (by decide +kernel)), rfl⟩
theorem k_235 : gw (.lays "java/lang/Throwable" "java/lang/Throwable" "backtrace" "Ljava/lang/Object;") := ⟨tw_1 (List.mem_of_getElem? (i := 235) (by decide +kernel)), rfl⟩
theorem k_236 : gw (.fieldLink "java/lang/Throwable" 198 "java/lang/Throwable" "backtrace" "Ljava/lang/Object;") := ⟨tw_1 (List.mem_of_getElem? (i := 236) (by decide +kernel)), rfl⟩
theorem k_237 : gw (.superclass "java/lang/Throwable" "java/lang/Object") := ⟨tw_1 (List.mem_of_getElem? (i := 237) (by decide +kernel)), rfl⟩
theorem k_238 : gw (.instanceMethod ⟨"java/lang/Throwable", "<init>", "()V"⟩) := ⟨tw_1 (List.mem_of_getElem? (i := 238) (by decide +kernel)), rfl⟩
theorem k_239 : gw (.code ⟨"java/lang/Throwable", "<init>", "()V"⟩ prog_18_method_1_code 1 none) := ⟨tw_1 (List.mem_of_getElem? (i := 239) (by decide +kernel)), rfl⟩
theorem k_240 : gw (.methodLink "java/lang/Throwable" 1 ⟨"java/lang/Object", "<init>", "()V"⟩) := ⟨tw_2 (List.mem_of_getElem? (i := 0) (by decide +kernel)), rfl⟩
theorem k_241 : gw (.fieldLink "java/lang/Throwable" 13 "java/lang/Throwable" "UNASSIGNED_STACK" "[Ljava/lang/StackTraceElement;") := ⟨tw_2 (List.mem_of_getElem? (i := 1) (by decide +kernel)), rfl⟩
theorem kt_242 : (.laysStatic "java/lang/Throwable" "UNASSIGNED_STACK" "[Ljava/lang/StackTraceElement;" : Cond) ∈ lw_tbl := tw_2 (List.mem_of_getElem? (i := 2) (by decide +kernel))
theorem k_243 : gw (.fieldLink "java/lang/Throwable" 20 "java/lang/Throwable" "SUPPRESSED_SENTINEL" "Ljava/util/List;") := ⟨tw_2 (List.mem_of_getElem? (i := 3) (by decide +kernel)), rfl⟩
theorem kt_244 : (.laysStatic "java/lang/Throwable" "SUPPRESSED_SENTINEL" "Ljava/util/List;" : Cond) ∈ lw_tbl := tw_2 (List.mem_of_getElem? (i := 4) (by decide +kernel))
theorem k_245 : gw (.methodLink "java/lang/Throwable" 27 ⟨"java/lang/Throwable", "fillInStackTrace", "()Ljava/lang/Throwable;"⟩) := ⟨tw_2 (List.mem_of_getElem? (i := 5) (by decide +kernel)), rfl⟩
theorem k_246 : gw (.instanceMethod ⟨"java/lang/Throwable", "fillInStackTrace", "()Ljava/lang/Throwable;"⟩) := ⟨tw_2 (List.mem_of_getElem? (i := 6) (by decide +kernel)), rfl⟩
theorem k_247 : gw (.sameMethod "java/lang/Throwable" "java/lang/Throwable" "fillInStackTrace" "()Ljava/lang/Throwable;") := ⟨tw_2 (List.mem_of_getElem? (i := 7) (by decide +kernel)), rfl⟩
theorem k_248 : gw (.selects "java/lang/ArithmeticException" ⟨"java/lang/Throwable", "fillInStackTrace", "()Ljava/lang/Throwable;"⟩ ⟨"java/lang/Throwable", "fillInStackTrace", "()Ljava/lang/Throwable;"⟩) := ⟨tw_2 (List.mem_of_getElem? (i := 8) (by decide +kernel)), rfl⟩
theorem k_249 : gw (.selects "java/lang/IllegalStateException" ⟨"java/lang/Throwable", "fillInStackTrace", "()Ljava/lang/Throwable;"⟩ ⟨"java/lang/Throwable", "fillInStackTrace", "()Ljava/lang/Throwable;"⟩) := ⟨tw_2 (List.mem_of_getElem? (i := 9) (by decide +kernel)), rfl⟩
theorem k_250 : gw (.selects "java/lang/IndexOutOfBoundsException" ⟨"java/lang/Throwable", "fillInStackTrace", "()Ljava/lang/Throwable;"⟩ ⟨"java/lang/Throwable", "fillInStackTrace", "()Ljava/lang/Throwable;"⟩) := ⟨tw_2 (List.mem_of_getElem? (i := 10) (by decide +kernel)), rfl⟩
theorem k_251 : gw (.codeSync ⟨"java/lang/Throwable", "fillInStackTrace", "()Ljava/lang/Throwable;"⟩ prog_18_method_18_code 1 (some (.object "java/lang/Throwable"))) := ⟨tw_2 (List.mem_of_getElem? (i := 11) (by decide +kernel)), rfl⟩
theorem k_252 : gw (.methodLink "java/lang/Throwable" 202 ⟨"java/lang/Throwable", "fillInStackTrace", "(I)Ljava/lang/Throwable;"⟩) := ⟨tw_2 (List.mem_of_getElem? (i := 12) (by decide +kernel)), rfl⟩
theorem kt_253 : (.privateMethod ⟨"java/lang/Throwable", "fillInStackTrace", "(I)Ljava/lang/Throwable;"⟩ : Cond) ∈ lw_tbl := tw_2 (List.mem_of_getElem? (i := 13) (by decide +kernel))
theorem k_254 : gw (.instanceMethod ⟨"java/lang/Throwable", "fillInStackTrace", "(I)Ljava/lang/Throwable;"⟩) := ⟨tw_2 (List.mem_of_getElem? (i := 14) (by decide +kernel)), rfl⟩
theorem k_255 : gw (.instantiable "java/lang/Throwable" 6) := ⟨tw_2 (List.mem_of_getElem? (i := 15) (by decide +kernel)), rfl⟩
theorem k_256 : gw (.native ⟨"java/lang/Throwable", "fillInStackTrace", "(I)Ljava/lang/Throwable;"⟩) := ⟨tw_2 (List.mem_of_getElem? (i := 16) (by decide +kernel)), rfl⟩
theorem kt_257 : (.stringRef "PortBills" 73 "no such kind or what" : Cond) ∈ lw_tbl := tw_2 (List.mem_of_getElem? (i := 17) (by decide +kernel))
theorem k_258 : gw (.methodLink "PortBills" 75 ⟨"java/lang/IllegalArgumentException", "<init>", "(Ljava/lang/String;)V"⟩) := ⟨tw_2 (List.mem_of_getElem? (i := 18) (by decide +kernel)), rfl⟩
theorem k_259 : gw (.instanceMethod ⟨"java/lang/IllegalArgumentException", "<init>", "(Ljava/lang/String;)V"⟩) := ⟨tw_2 (List.mem_of_getElem? (i := 19) (by decide +kernel)), rfl⟩
theorem k_260 : gw (.code ⟨"java/lang/IllegalArgumentException", "<init>", "(Ljava/lang/String;)V"⟩ prog_10_method_2_code 2 none) := ⟨tw_2 (List.mem_of_getElem? (i := 20) (by decide +kernel)), rfl⟩
theorem k_261 : gw (.methodLink "java/lang/IllegalArgumentException" 7 ⟨"java/lang/RuntimeException", "<init>", "(Ljava/lang/String;)V"⟩) := ⟨tw_2 (List.mem_of_getElem? (i := 21) (by decide +kernel)), rfl⟩
theorem k_262 : gw (.instanceMethod ⟨"java/lang/RuntimeException", "<init>", "(Ljava/lang/String;)V"⟩) := ⟨tw_2 (List.mem_of_getElem? (i := 22) (by decide +kernel)), rfl⟩
theorem k_263 : gw (.code ⟨"java/lang/RuntimeException", "<init>", "(Ljava/lang/String;)V"⟩ prog_15_method_2_code 2 none) := ⟨tw_2 (List.mem_of_getElem? (i := 23) (by decide +kernel)), rfl⟩
theorem k_264 : gw (.methodLink "java/lang/RuntimeException" 7 ⟨"java/lang/Exception", "<init>", "(Ljava/lang/String;)V"⟩) := ⟨tw_2 (List.mem_of_getElem? (i := 24) (by decide +kernel)), rfl⟩
theorem k_265 : gw (.instanceMethod ⟨"java/lang/Exception", "<init>", "(Ljava/lang/String;)V"⟩) := ⟨tw_2 (List.mem_of_getElem? (i := 25) (by decide +kernel)), rfl⟩
theorem k_266 : gw (.code ⟨"java/lang/Exception", "<init>", "(Ljava/lang/String;)V"⟩ prog_9_method_2_code 2 none) := ⟨tw_2 (List.mem_of_getElem? (i := 26) (by decide +kernel)), rfl⟩
theorem k_267 : gw (.methodLink "java/lang/Exception" 7 ⟨"java/lang/Throwable", "<init>", "(Ljava/lang/String;)V"⟩) := ⟨tw_2 (List.mem_of_getElem? (i := 27) (by decide +kernel)), rfl⟩
theorem k_268 : gw (.instanceMethod ⟨"java/lang/Throwable", "<init>", "(Ljava/lang/String;)V"⟩) := ⟨tw_2 (List.mem_of_getElem? (i := 28) (by decide +kernel)), rfl⟩
theorem k_269 : gw (.code ⟨"java/lang/Throwable", "<init>", "(Ljava/lang/String;)V"⟩ prog_18_method_2_code 2 none) := ⟨tw_2 (List.mem_of_getElem? (i := 29) (by decide +kernel)), rfl⟩
theorem k_271 : gw (.fieldLink "java/lang/Throwable" 31 "java/lang/Throwable" "detailMessage" "Ljava/lang/String;") := ⟨tw_2 (List.mem_of_getElem? (i := 31) (by decide +kernel)), rfl⟩
theorem k_272 : gw (.fieldLink "java/lang/Throwable" 7 "java/lang/Throwable" "cause" "Ljava/lang/Throwable;") := ⟨tw_2 (List.mem_of_getElem? (i := 32) (by decide +kernel)), rfl⟩
theorem k_273 : gw (.fieldLink "java/lang/Throwable" 17 "java/lang/Throwable" "stackTrace" "[Ljava/lang/StackTraceElement;") := ⟨tw_2 (List.mem_of_getElem? (i := 33) (by decide +kernel)), rfl⟩
theorem k_274 : gw (.fieldLink "java/lang/Throwable" 24 "java/lang/Throwable" "suppressedExceptions" "Ljava/util/List;") := ⟨tw_2 (List.mem_of_getElem? (i := 34) (by decide +kernel)), rfl⟩
theorem k_275 : gw (.soleField "java/lang/Throwable" "backtrace") := ⟨tw_2 (List.mem_of_getElem? (i := 35) (by decide +kernel)), rfl⟩
theorem k_276 : gw (.soleField "java/lang/Throwable" "detailMessage") := ⟨tw_2 (List.mem_of_getElem? (i := 36) (by decide +kernel)), rfl⟩
theorem k_277 : gw (.soleField "java/lang/Throwable" "cause") := ⟨tw_2 (List.mem_of_getElem? (i := 37) (by decide +kernel)), rfl⟩
theorem k_278 : gw (.soleField "java/lang/Throwable" "stackTrace") := ⟨tw_2 (List.mem_of_getElem? (i := 38) (by decide +kernel)), rfl⟩
theorem k_279 : gw (.lays "java/lang/IllegalArgumentException" "java/lang/Throwable" "depth" "I") := ⟨tw_2 (List.mem_of_getElem? (i := 39) (by decide +kernel)), rfl⟩
theorem k_280 : gw (.soleField "java/lang/Throwable" "depth") := ⟨tw_2 (List.mem_of_getElem? (i := 40) (by decide +kernel)), rfl⟩
theorem k_281 : gw (.soleField "java/lang/Throwable" "suppressedExceptions") := ⟨tw_2 (List.mem_of_getElem? (i := 41) (by decide +kernel)), rfl⟩
theorem k_282 : gw (.superclass "java/lang/IllegalArgumentException" "java/lang/RuntimeException") := ⟨tw_2 (List.mem_of_getElem? (i := 42) (by decide +kernel)), rfl⟩
theorem k_283 : gw (.arrayClass .byte) := ⟨tw_2 (List.mem_of_getElem? (i := 43) (by decide +kernel)), rfl⟩
theorem k_284 : gw (.methodLink "PortBills" 78 y_PB_hasTariff) := ⟨tw_2 (List.mem_of_getElem? (i := 44) (by decide +kernel)), rfl⟩
theorem kt_285 : (.privateMethod y_PB_hasTariff : Cond) ∈ lw_tbl := tw_2 (List.mem_of_getElem? (i := 45) (by decide +kernel))
theorem k_286 : gw (.instanceMethod y_PB_hasTariff) := ⟨tw_2 (List.mem_of_getElem? (i := 46) (by decide +kernel)), rfl⟩
theorem k_287 : gw (.code y_PB_hasTariff b_PB_hasTariff 2 (some .boolean)) := ⟨tw_2 (List.mem_of_getElem? (i := 47) (by decide +kernel)), rfl⟩
theorem k_288 : gw (.methodLink "PortBillsLaw" 76 y_LW_event) := ⟨tw_2 (List.mem_of_getElem? (i := 48) (by decide +kernel)), rfl⟩
theorem k_289 : gw (.static y_LW_event) := ⟨tw_2 (List.mem_of_getElem? (i := 49) (by decide +kernel)), rfl⟩
theorem k_290 : gw (.codeWith y_LW_event b_LW_event 6 (some .int) [(0, 12, 15, 13), (0, 12, 19, 19)]) := ⟨tw_2 (List.mem_of_getElem? (i := 50) (by decide +kernel)), rfl⟩
theorem k_291 : gw (.classLink "PortBillsLaw" 19 "java/lang/IllegalStateException") := ⟨tw_2 (List.mem_of_getElem? (i := 51) (by decide +kernel)), rfl⟩
theorem k_292 : gw (.methodLink "PortBillsLaw" 15 y_PB_event) := ⟨tw_2 (List.mem_of_getElem? (i := 52) (by decide +kernel)), rfl⟩
theorem k_293 : gw (.instanceMethod y_PB_event) := ⟨tw_2 (List.mem_of_getElem? (i := 53) (by decide +kernel)), rfl⟩
theorem k_294 : gw (.selects "PortBills" y_PB_event y_PB_event) := ⟨tw_2 (List.mem_of_getElem? (i := 54) (by decide +kernel)), rfl⟩
theorem k_295 : gw (.code y_PB_event b_PB_event 5 (some .int)) := ⟨tw_2 (List.mem_of_getElem? (i := 55) (by decide +kernel)), rfl⟩
theorem k_296 : gw (.constant "PortBills" 84 50000) := ⟨tw_2 (List.mem_of_getElem? (i := 56) (by decide +kernel)), rfl⟩
theorem kt_297 : (.stringRef "PortBills" 85 "no such call, kind or amount" : Cond) ∈ lw_tbl := tw_2 (List.mem_of_getElem? (i := 57) (by decide +kernel))
theorem k_298 : gw (.classLink "PortBills" 91 "java/lang/IllegalStateException") := ⟨tw_2 (List.mem_of_getElem? (i := 58) (by decide +kernel)), rfl⟩
theorem k_299 : gw (.instantiable "java/lang/IllegalStateException" 6) := ⟨tw_2 (List.mem_of_getElem? (i := 59) (by decide +kernel)), rfl⟩
theorem kt_300 : (.castable "java/lang/IllegalStateException" "java/lang/IllegalStateException" : Cond) ∈ lw_tbl := tw_2 (List.mem_of_getElem? (i := 60) (by decide +kernel))
theorem k_301 : gw (.selects "java/lang/IllegalStateException" ⟨"java/lang/Throwable", "fillInStackTrace", "(I)Ljava/lang/Throwable;"⟩ ⟨"java/lang/Throwable", "fillInStackTrace", "(I)Ljava/lang/Throwable;"⟩) := ⟨tw_2 (List.mem_of_getElem? (i := 61) (by decide +kernel)), rfl⟩
theorem k_302 : gw (.lays "java/lang/IllegalStateException" "java/lang/Throwable" "cause" "Ljava/lang/Throwable;") := ⟨tw_2 (List.mem_of_getElem? (i := 62) (by decide +kernel)), rfl⟩
theorem k_303 : gw (.lays "java/lang/IllegalStateException" "java/lang/Throwable" "stackTrace" "[Ljava/lang/StackTraceElement;") := ⟨tw_2 (List.mem_of_getElem? (i := 63) (by decide +kernel)), rfl⟩
theorem k_304 : gw (.lays "java/lang/IllegalStateException" "java/lang/Throwable" "suppressedExceptions" "Ljava/util/List;") := ⟨tw_2 (List.mem_of_getElem? (i := 64) (by decide +kernel)), rfl⟩
theorem k_305 : gw (.lays "java/lang/IllegalStateException" "java/lang/Throwable" "detailMessage" "Ljava/lang/String;") := ⟨tw_2 (List.mem_of_getElem? (i := 65) (by decide +kernel)), rfl⟩
theorem k_306 : gw (.lays "java/lang/IllegalStateException" "java/lang/Throwable" "backtrace" "Ljava/lang/Object;") := ⟨tw_2 (List.mem_of_getElem? (i := 66) (by decide +kernel)), rfl⟩
theorem kt_307 : (.stringRef "PortBills" 93 "too many events wait" : Cond) ∈ lw_tbl := tw_2 (List.mem_of_getElem? (i := 67) (by decide +kernel))
theorem k_308 : gw (.methodLink "PortBills" 95 ⟨"java/lang/IllegalStateException", "<init>", "(Ljava/lang/String;)V"⟩) := ⟨tw_2 (List.mem_of_getElem? (i := 68) (by decide +kernel)), rfl⟩
theorem k_309 : gw (.instanceMethod ⟨"java/lang/IllegalStateException", "<init>", "(Ljava/lang/String;)V"⟩) := ⟨tw_2 (List.mem_of_getElem? (i := 69) (by decide +kernel)), rfl⟩
theorem k_310 : gw (.code ⟨"java/lang/IllegalStateException", "<init>", "(Ljava/lang/String;)V"⟩ prog_11_method_2_code 2 none) := ⟨tw_2 (List.mem_of_getElem? (i := 70) (by decide +kernel)), rfl⟩
theorem k_311 : gw (.methodLink "java/lang/IllegalStateException" 7 ⟨"java/lang/RuntimeException", "<init>", "(Ljava/lang/String;)V"⟩) := ⟨tw_2 (List.mem_of_getElem? (i := 71) (by decide +kernel)), rfl⟩
theorem k_312 : gw (.lays "java/lang/IllegalStateException" "java/lang/Throwable" "depth" "I") := ⟨tw_2 (List.mem_of_getElem? (i := 72) (by decide +kernel)), rfl⟩
theorem k_313 : gw (.superclass "java/lang/IllegalStateException" "java/lang/RuntimeException") := ⟨tw_2 (List.mem_of_getElem? (i := 73) (by decide +kernel)), rfl⟩
theorem k_314 : gw (.fieldLink "PortBills" 96 "PortBills" "UNIT" "[I") := ⟨tw_2 (List.mem_of_getElem? (i := 74) (by decide +kernel)), rfl⟩
theorem kt_315 : (.laysStatic "PortBills" "UNIT" "[I" : Cond) ∈ lw_tbl := tw_2 (List.mem_of_getElem? (i := 75) (by decide +kernel))
theorem k_316 : gw (.methodLink "PortBills" 99 y_PB_begunUnits) := ⟨tw_2 (List.mem_of_getElem? (i := 76) (by decide +kernel)), rfl⟩
theorem k_317 : gw (.static y_PB_begunUnits) := ⟨tw_2 (List.mem_of_getElem? (i := 77) (by decide +kernel)), rfl⟩
theorem k_318 : gw (.code y_PB_begunUnits b_PB_begunUnits 2 (some .int)) := ⟨tw_2 (List.mem_of_getElem? (i := 78) (by decide +kernel)), rfl⟩
theorem k_319 : gw (.methodLink "PortBills" 183 y_PB_quotient) := ⟨tw_2 (List.mem_of_getElem? (i := 79) (by decide +kernel)), rfl⟩
theorem k_320 : gw (.static y_PB_quotient) := ⟨tw_2 (List.mem_of_getElem? (i := 80) (by decide +kernel)), rfl⟩
theorem k_321 : gw (.code y_PB_quotient b_PB_quotient 4 (some .long)) := ⟨tw_2 (List.mem_of_getElem? (i := 81) (by decide +kernel)), rfl⟩
theorem k_322 : gw (.methodLink "PortBillsLaw" 85 y_LW_bill) := ⟨tw_2 (List.mem_of_getElem? (i := 82) (by decide +kernel)), rfl⟩
theorem k_323 : gw (.static y_LW_bill) := ⟨tw_2 (List.mem_of_getElem? (i := 83) (by decide +kernel)), rfl⟩
theorem k_324 : gw (.codeWith y_LW_bill b_LW_bill 4 (some .int) [(0, 9, 12, 13), (0, 9, 15, 19)]) := ⟨tw_2 (List.mem_of_getElem? (i := 84) (by decide +kernel)), rfl⟩
theorem k_325 : gw (.methodLink "PortBillsLaw" 21 y_PB_bill) := ⟨tw_2 (List.mem_of_getElem? (i := 85) (by decide +kernel)), rfl⟩
theorem k_326 : gw (.instanceMethod y_PB_bill) := ⟨tw_2 (List.mem_of_getElem? (i := 86) (by decide +kernel)), rfl⟩
theorem k_327 : gw (.selects "PortBills" y_PB_bill y_PB_bill) := ⟨tw_2 (List.mem_of_getElem? (i := 87) (by decide +kernel)), rfl⟩
theorem k_328 : gw (.code y_PB_bill b_PB_bill 4 (some .int)) := ⟨tw_2 (List.mem_of_getElem? (i := 88) (by decide +kernel)), rfl⟩
theorem kt_329 : (.stringRef "PortBills" 103 "no such call" : Cond) ∈ lw_tbl := tw_2 (List.mem_of_getElem? (i := 89) (by decide +kernel))
theorem k_330 : gw (.methodLink "PortBills" 105 y_PB_kindsThatWait) := ⟨tw_2 (List.mem_of_getElem? (i := 90) (by decide +kernel)), rfl⟩
theorem kt_331 : (.privateMethod y_PB_kindsThatWait : Cond) ∈ lw_tbl := tw_2 (List.mem_of_getElem? (i := 91) (by decide +kernel))
theorem k_332 : gw (.instanceMethod y_PB_kindsThatWait) := ⟨tw_2 (List.mem_of_getElem? (i := 92) (by decide +kernel)), rfl⟩
theorem k_333 : gw (.code y_PB_kindsThatWait b_PB_kindsThatWait 4 (some .int)) := ⟨tw_2 (List.mem_of_getElem? (i := 93) (by decide +kernel)), rfl⟩
theorem kt_334 : (.stringRef "PortBills" 112 "no room for the lines" : Cond) ∈ lw_tbl := tw_2 (List.mem_of_getElem? (i := 94) (by decide +kernel))
theorem k_335 : gw (.methodLink "PortBills" 114 y_PB_billedLine) := ⟨tw_2 (List.mem_of_getElem? (i := 95) (by decide +kernel)), rfl⟩
theorem kt_336 : (.privateMethod y_PB_billedLine : Cond) ∈ lw_tbl := tw_2 (List.mem_of_getElem? (i := 96) (by decide +kernel))
theorem k_337 : gw (.instanceMethod y_PB_billedLine) := ⟨tw_2 (List.mem_of_getElem? (i := 97) (by decide +kernel)), rfl⟩
theorem k_338 : gw (.code y_PB_billedLine b_PB_billedLine 5 (some (.object "PortBills$Line"))) := ⟨tw_2 (List.mem_of_getElem? (i := 98) (by decide +kernel)), rfl⟩
theorem k_339 : gw (.methodLink "PortBills" 217 ⟨"java/lang/Math", "max", "(II)I"⟩) := ⟨tw_2 (List.mem_of_getElem? (i := 99) (by decide +kernel)), rfl⟩
theorem k_340 : gw (.static ⟨"java/lang/Math", "max", "(II)I"⟩) := ⟨tw_2 (List.mem_of_getElem? (i := 100) (by decide +kernel)), rfl⟩
theorem k_341 : gw (.code ⟨"java/lang/Math", "max", "(II)I"⟩ prog_14_method_65_code 2 (some .int)) := ⟨tw_2 (List.mem_of_getElem? (i := 101) (by decide +kernel)), rfl⟩
theorem k_342 : gw (.instantiable "PortBills$Line" 9) := ⟨tw_2 (List.mem_of_getElem? (i := 102) (by decide +kernel)), rfl⟩
theorem k_343 : gw (.methodLink "PortBills" 222 y_PB_centsFor) := ⟨tw_2 (List.mem_of_getElem? (i := 103) (by decide +kernel)), rfl⟩
theorem kt_344 : (.privateMethod y_PB_centsFor : Cond) ∈ lw_tbl := tw_2 (List.mem_of_getElem? (i := 104) (by decide +kernel))
theorem k_345 : gw (.instanceMethod y_PB_centsFor) := ⟨tw_2 (List.mem_of_getElem? (i := 105) (by decide +kernel)), rfl⟩
theorem k_346 : gw (.code y_PB_centsFor b_PB_centsFor 8 (some .long)) := ⟨tw_2 (List.mem_of_getElem? (i := 106) (by decide +kernel)), rfl⟩
theorem k_347 : gw (.methodLink "PortBills" 226 y_PB_roundedHalfUp) := ⟨tw_2 (List.mem_of_getElem? (i := 107) (by decide +kernel)), rfl⟩
theorem k_348 : gw (.static y_PB_roundedHalfUp) := ⟨tw_2 (List.mem_of_getElem? (i := 108) (by decide +kernel)), rfl⟩
theorem k_349 : gw (.code y_PB_roundedHalfUp b_PB_roundedHalfUp 8 (some .long)) := ⟨tw_2 (List.mem_of_getElem? (i := 109) (by decide +kernel)), rfl⟩
theorem k_350 : gw (.constantLong "PortBills" 234 2) := ⟨tw_2 (List.mem_of_getElem? (i := 110) (by decide +kernel)), rfl⟩
theorem k_351 : gw (.methodLink "PortBills" 229 ⟨"java/lang/Math", "max", "(JJ)J"⟩) := ⟨tw_2 (List.mem_of_getElem? (i := 111) (by decide +kernel)), rfl⟩
theorem k_352 : gw (.static ⟨"java/lang/Math", "max", "(JJ)J"⟩) := ⟨tw_2 (List.mem_of_getElem? (i := 112) (by decide +kernel)), rfl⟩
theorem k_353 : gw (.code ⟨"java/lang/Math", "max", "(JJ)J"⟩ prog_14_method_66_code 4 (some .long)) := ⟨tw_2 (List.mem_of_getElem? (i := 113) (by decide +kernel)), rfl⟩
theorem kn_354 : gn (.methodLinkNest "PortBills" 155 y_LN_init "PortBills") := ⟨tw_2 (List.mem_of_getElem? (i := 114) (by decide +kernel)), rfl⟩
theorem k_355 : gw (.instanceMethod y_LN_init) := ⟨tw_2 (List.mem_of_getElem? (i := 115) (by decide +kernel)), rfl⟩
theorem k_356 : gw (.code y_LN_init b_LN_init 9 none) := ⟨tw_2 (List.mem_of_getElem? (i := 116) (by decide +kernel)), rfl⟩
theorem k_357 : gw (.methodLink "PortBills$Line" 3 ⟨"java/lang/Object", "<init>", "()V"⟩) := ⟨tw_2 (List.mem_of_getElem? (i := 117) (by decide +kernel)), rfl⟩
theorem k_358 : gw (.fieldLink "PortBills$Line" 9 "PortBills$Line" "call" "I") := ⟨tw_2 (List.mem_of_getElem? (i := 118) (by decide +kernel)), rfl⟩
theorem kn_359 : gn (.fieldLinkNest "PortBills" 149 "PortBills$Line" "call" "I" "PortBills") := ⟨tw_2 (List.mem_of_getElem? (i := 119) (by decide +kernel)), rfl⟩
theorem k_360 : gw (.fieldLink "PortBills$Line" 15 "PortBills$Line" "kind" "I") := ⟨tw_2 (List.mem_of_getElem? (i := 120) (by decide +kernel)), rfl⟩
theorem kn_361 : gn (.fieldLinkNest "PortBills" 152 "PortBills$Line" "kind" "I" "PortBills") := ⟨tw_2 (List.mem_of_getElem? (i := 121) (by decide +kernel)), rfl⟩
theorem k_362 : gw (.fieldLink "PortBills$Line" 18 "PortBills$Line" "units" "I") := ⟨tw_2 (List.mem_of_getElem? (i := 122) (by decide +kernel)), rfl⟩
theorem k_363 : gw (.fieldLink "PortBills$Line" 21 "PortBills$Line" "charged" "I") := ⟨tw_2 (List.mem_of_getElem? (i := 123) (by decide +kernel)), rfl⟩
theorem k_364 : gw (.fieldLink "PortBills$Line" 24 "PortBills$Line" "cents" "J") := ⟨tw_2 (List.mem_of_getElem? (i := 124) (by decide +kernel)), rfl⟩
theorem kn_365 : gn (.fieldLinkNest "PortBills" 231 "PortBills$Line" "cents" "J" "PortBills") := ⟨tw_2 (List.mem_of_getElem? (i := 125) (by decide +kernel)), rfl⟩
theorem k_366 : gw (.fieldLink "PortBills$Line" 28 "PortBills$Line" "corrects" "I") := ⟨tw_2 (List.mem_of_getElem? (i := 126) (by decide +kernel)), rfl⟩
theorem kn_367 : gn (.fieldLinkNest "PortBills" 164 "PortBills$Line" "corrects" "I" "PortBills") := ⟨tw_2 (List.mem_of_getElem? (i := 127) (by decide +kernel)), rfl⟩
theorem k_368 : gw (.fieldLink "PortBills$Line" 31 "PortBills$Line" "byFallback" "Z") := ⟨tw_2 (List.mem_of_getElem? (i := 128) (by decide +kernel)), rfl⟩
theorem k_369 : gw (.fieldLink "PortBills$Line" 38 "PortBills$Line" "disputed" "Z") := ⟨tw_2 (List.mem_of_getElem? (i := 129) (by decide +kernel)), rfl⟩
theorem kn_370 : gn (.fieldLinkNest "PortBills" 158 "PortBills$Line" "disputed" "Z" "PortBills") := ⟨tw_2 (List.mem_of_getElem? (i := 130) (by decide +kernel)), rfl⟩
theorem k_371 : gw (.fieldLink "PortBills$Line" 35 "PortBills$Line" "corrected" "J") := ⟨tw_2 (List.mem_of_getElem? (i := 131) (by decide +kernel)), rfl⟩
theorem kn_372 : gn (.fieldLinkNest "PortBills" 145 "PortBills$Line" "corrected" "J" "PortBills") := ⟨tw_2 (List.mem_of_getElem? (i := 132) (by decide +kernel)), rfl⟩
theorem k_373 : gw (.laysFinal "PortBills$Line" "PortBills$Line" "call" "I") := ⟨tw_2 (List.mem_of_getElem? (i := 133) (by decide +kernel)), rfl⟩
theorem k_374 : gw (.soleField "PortBills$Line" "call") := ⟨tw_2 (List.mem_of_getElem? (i := 134) (by decide +kernel)), rfl⟩
theorem k_375 : gw (.laysFinal "PortBills$Line" "PortBills$Line" "kind" "I") := ⟨tw_2 (List.mem_of_getElem? (i := 135) (by decide +kernel)), rfl⟩
theorem k_376 : gw (.soleField "PortBills$Line" "kind") := ⟨tw_2 (List.mem_of_getElem? (i := 136) (by decide +kernel)), rfl⟩
theorem k_377 : gw (.laysFinal "PortBills$Line" "PortBills$Line" "units" "I") := ⟨tw_2 (List.mem_of_getElem? (i := 137) (by decide +kernel)), rfl⟩
theorem k_378 : gw (.soleField "PortBills$Line" "units") := ⟨tw_2 (List.mem_of_getElem? (i := 138) (by decide +kernel)), rfl⟩
theorem k_379 : gw (.laysFinal "PortBills$Line" "PortBills$Line" "charged" "I") := ⟨tw_2 (List.mem_of_getElem? (i := 139) (by decide +kernel)), rfl⟩
theorem k_380 : gw (.soleField "PortBills$Line" "charged") := ⟨tw_2 (List.mem_of_getElem? (i := 140) (by decide +kernel)), rfl⟩
theorem k_381 : gw (.laysFinal "PortBills$Line" "PortBills$Line" "cents" "J") := ⟨tw_2 (List.mem_of_getElem? (i := 141) (by decide +kernel)), rfl⟩
theorem k_382 : gw (.soleField "PortBills$Line" "cents") := ⟨tw_2 (List.mem_of_getElem? (i := 142) (by decide +kernel)), rfl⟩
theorem k_383 : gw (.laysFinal "PortBills$Line" "PortBills$Line" "corrects" "I") := ⟨tw_2 (List.mem_of_getElem? (i := 143) (by decide +kernel)), rfl⟩
theorem k_384 : gw (.soleField "PortBills$Line" "corrects") := ⟨tw_2 (List.mem_of_getElem? (i := 144) (by decide +kernel)), rfl⟩
theorem k_385 : gw (.laysFinal "PortBills$Line" "PortBills$Line" "byFallback" "Z") := ⟨tw_2 (List.mem_of_getElem? (i := 145) (by decide +kernel)), rfl⟩
theorem k_386 : gw (.soleField "PortBills$Line" "byFallback") := ⟨tw_2 (List.mem_of_getElem? (i := 146) (by decide +kernel)), rfl⟩
theorem k_387 : gw (.lays "PortBills$Line" "PortBills$Line" "disputed" "Z") := ⟨tw_2 (List.mem_of_getElem? (i := 147) (by decide +kernel)), rfl⟩
theorem k_388 : gw (.soleField "PortBills$Line" "disputed") := ⟨tw_2 (List.mem_of_getElem? (i := 148) (by decide +kernel)), rfl⟩
theorem k_389 : gw (.lays "PortBills$Line" "PortBills$Line" "corrected" "J") := ⟨tw_2 (List.mem_of_getElem? (i := 149) (by decide +kernel)), rfl⟩
theorem k_390 : gw (.soleField "PortBills$Line" "corrected") := ⟨tw_2 (List.mem_of_getElem? (i := 150) (by decide +kernel)), rfl⟩
theorem k_391 : gw (.superclass "PortBills$Line" "java/lang/Object") := ⟨tw_2 (List.mem_of_getElem? (i := 151) (by decide +kernel)), rfl⟩
theorem k_392 : gw (.methodLink "PortBills" 118 y_AL_add) := ⟨tw_2 (List.mem_of_getElem? (i := 152) (by decide +kernel)), rfl⟩
theorem k_393 : gw (.instanceMethod y_AL_add) := ⟨tw_2 (List.mem_of_getElem? (i := 153) (by decide +kernel)), rfl⟩
theorem k_394 : gw (.selects "java/util/ArrayList" y_AL_add y_AL_add) := ⟨tw_2 (List.mem_of_getElem? (i := 154) (by decide +kernel)), rfl⟩
theorem k_395 : gw (.code y_AL_add b_AL_add 2 (some .boolean)) := ⟨tw_2 (List.mem_of_getElem? (i := 155) (by decide +kernel)), rfl⟩
theorem k_396 : gw (.methodLink "java/util/ArrayList" 131 y_AL_add2) := ⟨tw_2 (List.mem_of_getElem? (i := 156) (by decide +kernel)), rfl⟩
theorem kt_397 : (.privateMethod y_AL_add2 : Cond) ∈ lw_tbl := tw_2 (List.mem_of_getElem? (i := 157) (by decide +kernel))
theorem k_398 : gw (.instanceMethod y_AL_add2) := ⟨tw_2 (List.mem_of_getElem? (i := 158) (by decide +kernel)), rfl⟩
theorem k_399 : gw (.code y_AL_add2 b_AL_add2 4 none) := ⟨tw_2 (List.mem_of_getElem? (i := 159) (by decide +kernel)), rfl⟩
theorem k_400 : gw (.methodLink "java/util/ArrayList" 129 y_AL_grow) := ⟨tw_2 (List.mem_of_getElem? (i := 160) (by decide +kernel)), rfl⟩
theorem kt_401 : (.privateMethod y_AL_grow : Cond) ∈ lw_tbl := tw_2 (List.mem_of_getElem? (i := 161) (by decide +kernel))
theorem k_402 : gw (.instanceMethod y_AL_grow) := ⟨tw_2 (List.mem_of_getElem? (i := 162) (by decide +kernel)), rfl⟩
theorem k_403 : gw (.code y_AL_grow b_AL_grow 1 (some (.array (.object "java/lang/Object")))) := ⟨tw_2 (List.mem_of_getElem? (i := 163) (by decide +kernel)), rfl⟩
theorem k_404 : gw (.methodLink "java/util/ArrayList" 69 y_AL_grow2) := ⟨tw_2 (List.mem_of_getElem? (i := 164) (by decide +kernel)), rfl⟩
theorem kt_405 : (.privateMethod y_AL_grow2 : Cond) ∈ lw_tbl := tw_2 (List.mem_of_getElem? (i := 165) (by decide +kernel))
theorem k_406 : gw (.instanceMethod y_AL_grow2) := ⟨tw_2 (List.mem_of_getElem? (i := 166) (by decide +kernel)), rfl⟩
theorem k_407 : gw (.code y_AL_grow2 b_AL_grow2 4 (some (.array (.object "java/lang/Object")))) := ⟨tw_2 (List.mem_of_getElem? (i := 167) (by decide +kernel)), rfl⟩
theorem k_408 : gw (.methodLink "java/util/ArrayList" 73 y_AS_newLength) := ⟨tw_2 (List.mem_of_getElem? (i := 168) (by decide +kernel)), rfl⟩
theorem k_409 : gw (.static y_AS_newLength) := ⟨tw_2 (List.mem_of_getElem? (i := 169) (by decide +kernel)), rfl⟩
theorem k_410 : gw (.code y_AS_newLength b_AS_newLength 4 (some .int)) := ⟨tw_2 (List.mem_of_getElem? (i := 170) (by decide +kernel)), rfl⟩
theorem k_411 : gw (.methodLink "jdk/internal/util/ArraysSupport" 194 ⟨"java/lang/Math", "max", "(II)I"⟩) := ⟨tw_2 (List.mem_of_getElem? (i := 171) (by decide +kernel)), rfl⟩
theorem k_412 : gw (.constant "jdk/internal/util/ArraysSupport" 200 2147483639) := ⟨tw_2 (List.mem_of_getElem? (i := 172) (by decide +kernel)), rfl⟩
theorem k_413 : gw (.methodLink "jdk/internal/util/ArraysSupport" 201 y_AS_hugeLength) := ⟨tw_2 (List.mem_of_getElem? (i := 173) (by decide +kernel)), rfl⟩
theorem k_414 : gw (.static y_AS_hugeLength) := ⟨tw_2 (List.mem_of_getElem? (i := 174) (by decide +kernel)), rfl⟩
theorem k_415 : gw (.code y_AS_hugeLength b_AS_hugeLength 3 (some .int)) := ⟨tw_2 (List.mem_of_getElem? (i := 175) (by decide +kernel)), rfl⟩
theorem k_416 : gw (.methodLink "java/util/ArrayList" 66 y_AR_copyOf) := ⟨tw_2 (List.mem_of_getElem? (i := 176) (by decide +kernel)), rfl⟩
theorem k_417 : gw (.static y_AR_copyOf) := ⟨tw_2 (List.mem_of_getElem? (i := 177) (by decide +kernel)), rfl⟩
theorem k_418 : gw (.code y_AR_copyOf b_AR_copyOf 2 (some (.array (.object "java/lang/Object")))) := ⟨tw_2 (List.mem_of_getElem? (i := 178) (by decide +kernel)), rfl⟩
theorem k_419 : gw (.methodLink "java/util/Arrays" 86 ⟨"java/lang/Object", "getClass", "()Ljava/lang/Class;"⟩) := ⟨tw_2 (List.mem_of_getElem? (i := 179) (by decide +kernel)), rfl⟩
theorem k_420 : gw (.instanceMethod ⟨"java/lang/Object", "getClass", "()Ljava/lang/Class;"⟩) := ⟨tw_2 (List.mem_of_getElem? (i := 180) (by decide +kernel)), rfl⟩
theorem k_421 : gw (.sameMethod "java/lang/Object" "java/lang/Object" "getClass" "()Ljava/lang/Class;") := ⟨tw_2 (List.mem_of_getElem? (i := 181) (by decide +kernel)), rfl⟩
theorem k_422 : gw (.selects "PortBills" ⟨"java/lang/Object", "getClass", "()Ljava/lang/Class;"⟩ ⟨"java/lang/Object", "getClass", "()Ljava/lang/Class;"⟩) := ⟨tw_2 (List.mem_of_getElem? (i := 182) (by decide +kernel)), rfl⟩
theorem k_423 : gw (.selects "PortBills$Line" ⟨"java/lang/Object", "getClass", "()Ljava/lang/Class;"⟩ ⟨"java/lang/Object", "getClass", "()Ljava/lang/Class;"⟩) := ⟨tw_2 (List.mem_of_getElem? (i := 183) (by decide +kernel)), rfl⟩
theorem k_424 : gw (.selects "PortBills$TariffText" ⟨"java/lang/Object", "getClass", "()Ljava/lang/Class;"⟩ ⟨"java/lang/Object", "getClass", "()Ljava/lang/Class;"⟩) := ⟨tw_2 (List.mem_of_getElem? (i := 184) (by decide +kernel)), rfl⟩
theorem k_425 : gw (.selects "PortBillsModel" ⟨"java/lang/Object", "getClass", "()Ljava/lang/Class;"⟩ ⟨"java/lang/Object", "getClass", "()Ljava/lang/Class;"⟩) := ⟨tw_2 (List.mem_of_getElem? (i := 185) (by decide +kernel)), rfl⟩
theorem k_426 : gw (.selects "java/lang/ArithmeticException" ⟨"java/lang/Object", "getClass", "()Ljava/lang/Class;"⟩ ⟨"java/lang/Object", "getClass", "()Ljava/lang/Class;"⟩) := ⟨tw_2 (List.mem_of_getElem? (i := 186) (by decide +kernel)), rfl⟩
theorem k_427 : gw (.selects "java/lang/IllegalArgumentException" ⟨"java/lang/Object", "getClass", "()Ljava/lang/Class;"⟩ ⟨"java/lang/Object", "getClass", "()Ljava/lang/Class;"⟩) := ⟨tw_2 (List.mem_of_getElem? (i := 187) (by decide +kernel)), rfl⟩
theorem k_428 : gw (.selects "java/lang/IllegalStateException" ⟨"java/lang/Object", "getClass", "()Ljava/lang/Class;"⟩ ⟨"java/lang/Object", "getClass", "()Ljava/lang/Class;"⟩) := ⟨tw_2 (List.mem_of_getElem? (i := 188) (by decide +kernel)), rfl⟩
theorem k_429 : gw (.selects "java/lang/IndexOutOfBoundsException" ⟨"java/lang/Object", "getClass", "()Ljava/lang/Class;"⟩ ⟨"java/lang/Object", "getClass", "()Ljava/lang/Class;"⟩) := ⟨tw_2 (List.mem_of_getElem? (i := 189) (by decide +kernel)), rfl⟩
theorem k_430 : gw (.selects "java/util/ArrayList" ⟨"java/lang/Object", "getClass", "()Ljava/lang/Class;"⟩ ⟨"java/lang/Object", "getClass", "()Ljava/lang/Class;"⟩) := ⟨tw_2 (List.mem_of_getElem? (i := 190) (by decide +kernel)), rfl⟩
theorem k_431 : gw (.native ⟨"java/lang/Object", "getClass", "()Ljava/lang/Class;"⟩) := ⟨tw_2 (List.mem_of_getElem? (i := 191) (by decide +kernel)), rfl⟩
theorem k_432 : gw (.methodLink "java/util/Arrays" 300 y_AR_copyOf2) := ⟨tw_2 (List.mem_of_getElem? (i := 192) (by decide +kernel)), rfl⟩
theorem k_433 : gw (.static y_AR_copyOf2) := ⟨tw_2 (List.mem_of_getElem? (i := 193) (by decide +kernel)), rfl⟩
theorem k_434 : gw (.code y_AR_copyOf2 b_AR_copyOf2 4 (some (.array (.object "java/lang/Object")))) := ⟨tw_2 (List.mem_of_getElem? (i := 194) (by decide +kernel)), rfl⟩
theorem k_435 : gw (.classLink "java/util/Arrays" 110 "[Ljava/lang/Object;") := ⟨tw_2 (List.mem_of_getElem? (i := 195) (by decide +kernel)), rfl⟩
theorem kt_436 : (.arrayOver (.object "java/lang/Object") : Cond) ∈ lw_tbl := tw_2 (List.mem_of_getElem? (i := 196) (by decide +kernel))
theorem k_437 : gw (.classLink "java/util/Arrays" 2 "java/lang/Object") := ⟨tw_2 (List.mem_of_getElem? (i := 197) (by decide +kernel)), rfl⟩
theorem k_438 : gw (.methodLink "java/util/Arrays" 304 ⟨"java/lang/Math", "min", "(II)I"⟩) := ⟨tw_2 (List.mem_of_getElem? (i := 198) (by decide +kernel)), rfl⟩
theorem k_439 : gw (.static ⟨"java/lang/Math", "min", "(II)I"⟩) := ⟨tw_2 (List.mem_of_getElem? (i := 199) (by decide +kernel)), rfl⟩
theorem k_440 : gw (.code ⟨"java/lang/Math", "min", "(II)I"⟩ prog_14_method_69_code 2 (some .int)) := ⟨tw_2 (List.mem_of_getElem? (i := 200) (by decide +kernel)), rfl⟩
theorem k_441 : gw (.methodLink "java/util/Arrays" 150 ⟨"java/lang/System", "arraycopy", "(Ljava/lang/Object;ILjava/lang/Object;II)V"⟩) := ⟨tw_2 (List.mem_of_getElem? (i := 201) (by decide +kernel)), rfl⟩
theorem k_442 : gw (.methodLink "java/util/ArrayList" 79 ⟨"java/lang/Math", "max", "(II)I"⟩) := ⟨tw_2 (List.mem_of_getElem? (i := 202) (by decide +kernel)), rfl⟩
theorem k_443 : gw (.classLink "java/util/ArrayList" 7 "java/lang/Object") := ⟨tw_2 (List.mem_of_getElem? (i := 203) (by decide +kernel)), rfl⟩
theorem k_444 : gw (.methodLink "PortBills" 122 y_PB_forgetEvents) := ⟨tw_2 (List.mem_of_getElem? (i := 204) (by decide +kernel)), rfl⟩
theorem kt_445 : (.privateMethod y_PB_forgetEvents : Cond) ∈ lw_tbl := tw_2 (List.mem_of_getElem? (i := 205) (by decide +kernel))
theorem k_446 : gw (.instanceMethod y_PB_forgetEvents) := ⟨tw_2 (List.mem_of_getElem? (i := 206) (by decide +kernel)), rfl⟩
theorem k_447 : gw (.code y_PB_forgetEvents b_PB_forgetEvents 2 none) := ⟨tw_2 (List.mem_of_getElem? (i := 207) (by decide +kernel)), rfl⟩
theorem k_448 : gw (.methodLink "PortBillsLaw" 91 y_LW_correct) := ⟨tw_2 (List.mem_of_getElem? (i := 208) (by decide +kernel)), rfl⟩
theorem k_449 : gw (.static y_LW_correct) := ⟨tw_2 (List.mem_of_getElem? (i := 209) (by decide +kernel)), rfl⟩
theorem k_450 : gw (.codeWith y_LW_correct b_LW_correct 6 (some .int) [(0, 11, 14, 13), (0, 11, 18, 19)]) := ⟨tw_2 (List.mem_of_getElem? (i := 210) (by decide +kernel)), rfl⟩
theorem k_451 : gw (.methodLink "PortBillsLaw" 25 y_PB_correct) := ⟨tw_2 (List.mem_of_getElem? (i := 211) (by decide +kernel)), rfl⟩
theorem k_452 : gw (.instanceMethod y_PB_correct) := ⟨tw_2 (List.mem_of_getElem? (i := 212) (by decide +kernel)), rfl⟩
theorem k_453 : gw (.selects "PortBills" y_PB_correct y_PB_correct) := ⟨tw_2 (List.mem_of_getElem? (i := 213) (by decide +kernel)), rfl⟩
theorem k_454 : gw (.code y_PB_correct b_PB_correct 6 (some .int)) := ⟨tw_2 (List.mem_of_getElem? (i := 214) (by decide +kernel)), rfl⟩
theorem k_455 : gw (.methodLink "PortBills" 126 y_PB_isLine) := ⟨tw_2 (List.mem_of_getElem? (i := 215) (by decide +kernel)), rfl⟩
theorem kt_456 : (.privateMethod y_PB_isLine : Cond) ∈ lw_tbl := tw_2 (List.mem_of_getElem? (i := 216) (by decide +kernel))
theorem k_457 : gw (.instanceMethod y_PB_isLine) := ⟨tw_2 (List.mem_of_getElem? (i := 217) (by decide +kernel)), rfl⟩
theorem k_458 : gw (.code y_PB_isLine b_PB_isLine 2 (some .boolean)) := ⟨tw_2 (List.mem_of_getElem? (i := 218) (by decide +kernel)), rfl⟩
theorem k_459 : gw (.constantLong "PortBills" 129 1000000000000) := ⟨tw_2 (List.mem_of_getElem? (i := 219) (by decide +kernel)), rfl⟩
theorem kt_460 : (.stringRef "PortBills" 131 "no such line or cents" : Cond) ∈ lw_tbl := tw_2 (List.mem_of_getElem? (i := 220) (by decide +kernel))
theorem kt_461 : (.stringRef "PortBills" 133 "no room for the line" : Cond) ∈ lw_tbl := tw_2 (List.mem_of_getElem? (i := 221) (by decide +kernel))
theorem kn_462 : gn (.methodLinkNest "PortBills" 141 y_LN_isCorrection "PortBills") := ⟨tw_2 (List.mem_of_getElem? (i := 222) (by decide +kernel)), rfl⟩
theorem kt_463 : (.privateMethod y_LN_isCorrection : Cond) ∈ lw_tbl := tw_2 (List.mem_of_getElem? (i := 223) (by decide +kernel))
theorem k_464 : gw (.instanceMethod y_LN_isCorrection) := ⟨tw_2 (List.mem_of_getElem? (i := 224) (by decide +kernel)), rfl⟩
theorem k_465 : gw (.code y_LN_isCorrection b_LN_isCorrection 1 (some .boolean)) := ⟨tw_2 (List.mem_of_getElem? (i := 225) (by decide +kernel)), rfl⟩
theorem k_466 : gw (.methodLink "PortBillsLaw" 95 y_LW_dispute) := ⟨tw_2 (List.mem_of_getElem? (i := 226) (by decide +kernel)), rfl⟩
theorem k_467 : gw (.static y_LW_dispute) := ⟨tw_2 (List.mem_of_getElem? (i := 227) (by decide +kernel)), rfl⟩
theorem k_468 : gw (.codeWith y_LW_dispute b_LW_dispute 5 (some .int) [(0, 10, 13, 13)]) := ⟨tw_2 (List.mem_of_getElem? (i := 228) (by decide +kernel)), rfl⟩
theorem k_469 : gw (.methodLink "PortBillsLaw" 29 y_PB_dispute) := ⟨tw_2 (List.mem_of_getElem? (i := 229) (by decide +kernel)), rfl⟩
theorem k_470 : gw (.instanceMethod y_PB_dispute) := ⟨tw_2 (List.mem_of_getElem? (i := 230) (by decide +kernel)), rfl⟩
theorem k_471 : gw (.selects "PortBills" y_PB_dispute y_PB_dispute) := ⟨tw_2 (List.mem_of_getElem? (i := 231) (by decide +kernel)), rfl⟩
theorem k_472 : gw (.code y_PB_dispute b_PB_dispute 6 (some .int)) := ⟨tw_2 (List.mem_of_getElem? (i := 232) (by decide +kernel)), rfl⟩
theorem kt_473 : (.stringRef "PortBills" 162 "no such line" : Cond) ∈ lw_tbl := tw_2 (List.mem_of_getElem? (i := 233) (by decide +kernel))
theorem k_474 : gw (.methodLink "PortBillsLaw" 99 y_LW_pay) := ⟨tw_2 (List.mem_of_getElem? (i := 234) (by decide +kernel)), rfl⟩
theorem k_475 : gw (.static y_LW_pay) := ⟨tw_2 (List.mem_of_getElem? (i := 235) (by decide +kernel)), rfl⟩
theorem k_476 : gw (.codeWith y_LW_pay b_LW_pay 6 (some .int) [(0, 10, 13, 13)]) := ⟨tw_2 (List.mem_of_getElem? (i := 236) (by decide +kernel)), rfl⟩
theorem k_477 : gw (.methodLink "PortBillsLaw" 33 y_PB_pay) := ⟨tw_2 (List.mem_of_getElem? (i := 237) (by decide +kernel)), rfl⟩
theorem k_478 : gw (.instanceMethod y_PB_pay) := ⟨tw_2 (List.mem_of_getElem? (i := 238) (by decide +kernel)), rfl⟩
theorem k_479 : gw (.selects "PortBills" y_PB_pay y_PB_pay) := ⟨tw_2 (List.mem_of_getElem? (i := 239) (by decide +kernel)), rfl⟩
theorem k_480 : gw (.code y_PB_pay b_PB_pay 4 (some .long)) := ⟨tw_3 (List.mem_of_getElem? (i := 0) (by decide +kernel)), rfl⟩
theorem kt_481 : (.stringRef "PortBills" 167 "no such call or cents" : Cond) ∈ lw_tbl := tw_3 (List.mem_of_getElem? (i := 1) (by decide +kernel))
theorem k_482 : gw (.methodLink "PortBills" 169 y_PB_owedNow) := ⟨tw_3 (List.mem_of_getElem? (i := 2) (by decide +kernel)), rfl⟩
theorem kt_483 : (.privateMethod y_PB_owedNow : Cond) ∈ lw_tbl := tw_3 (List.mem_of_getElem? (i := 3) (by decide +kernel))
theorem k_484 : gw (.instanceMethod y_PB_owedNow) := ⟨tw_3 (List.mem_of_getElem? (i := 4) (by decide +kernel)), rfl⟩
theorem k_485 : gw (.code y_PB_owedNow b_PB_owedNow 6 (some .long)) := ⟨tw_3 (List.mem_of_getElem? (i := 5) (by decide +kernel)), rfl⟩
theorem k_486 : gw (.methodLink "PortBillsLaw" 102 y_LW_unpaid) := ⟨tw_3 (List.mem_of_getElem? (i := 6) (by decide +kernel)), rfl⟩
theorem k_487 : gw (.static y_LW_unpaid) := ⟨tw_3 (List.mem_of_getElem? (i := 7) (by decide +kernel)), rfl⟩
theorem k_488 : gw (.codeWith y_LW_unpaid b_LW_unpaid 4 (some .int) [(0, 8, 11, 13)]) := ⟨tw_3 (List.mem_of_getElem? (i := 8) (by decide +kernel)), rfl⟩
theorem k_489 : gw (.methodLink "PortBillsLaw" 37 y_PB_unpaid) := ⟨tw_3 (List.mem_of_getElem? (i := 9) (by decide +kernel)), rfl⟩
theorem k_490 : gw (.instanceMethod y_PB_unpaid) := ⟨tw_3 (List.mem_of_getElem? (i := 10) (by decide +kernel)), rfl⟩
theorem k_491 : gw (.selects "PortBills" y_PB_unpaid y_PB_unpaid) := ⟨tw_3 (List.mem_of_getElem? (i := 11) (by decide +kernel)), rfl⟩
theorem k_492 : gw (.code y_PB_unpaid b_PB_unpaid 2 (some .long)) := ⟨tw_3 (List.mem_of_getElem? (i := 12) (by decide +kernel)), rfl⟩
theorem k_493 : gw (.methodLink "PortBillsLaw" 105 y_LW_share) := ⟨tw_3 (List.mem_of_getElem? (i := 13) (by decide +kernel)), rfl⟩
theorem k_494 : gw (.static y_LW_share) := ⟨tw_3 (List.mem_of_getElem? (i := 14) (by decide +kernel)), rfl⟩
theorem k_495 : gw (.codeWith y_LW_share b_LW_share 7 (some .int) [(0, 12, 15, 13), (0, 12, 19, 45)]) := ⟨tw_3 (List.mem_of_getElem? (i := 15) (by decide +kernel)), rfl⟩
theorem k_496 : gw (.classLink "PortBillsLaw" 45 "java/lang/ArithmeticException") := ⟨tw_3 (List.mem_of_getElem? (i := 16) (by decide +kernel)), rfl⟩
theorem k_497 : gw (.methodLink "PortBillsLaw" 41 y_PB_share) := ⟨tw_3 (List.mem_of_getElem? (i := 17) (by decide +kernel)), rfl⟩
theorem k_498 : gw (.instanceMethod y_PB_share) := ⟨tw_3 (List.mem_of_getElem? (i := 18) (by decide +kernel)), rfl⟩
theorem k_499 : gw (.selects "PortBills" y_PB_share y_PB_share) := ⟨tw_3 (List.mem_of_getElem? (i := 19) (by decide +kernel)), rfl⟩
theorem k_500 : gw (.code y_PB_share b_PB_share 5 (some .long)) := ⟨tw_3 (List.mem_of_getElem? (i := 20) (by decide +kernel)), rfl⟩
theorem k_501 : gw (.methodLink "PortBills" 173 y_PB_isKey) := ⟨tw_3 (List.mem_of_getElem? (i := 21) (by decide +kernel)), rfl⟩
theorem k_502 : gw (.static y_PB_isKey) := ⟨tw_3 (List.mem_of_getElem? (i := 22) (by decide +kernel)), rfl⟩
theorem k_503 : gw (.code y_PB_isKey b_PB_isKey 1 (some .boolean)) := ⟨tw_3 (List.mem_of_getElem? (i := 23) (by decide +kernel)), rfl⟩
theorem k_504 : gw (.constant "PortBills" 204 1000000) := ⟨tw_3 (List.mem_of_getElem? (i := 24) (by decide +kernel)), rfl⟩
theorem kt_505 : (.stringRef "PortBills" 176 "no such cents or keys" : Cond) ∈ lw_tbl := tw_3 (List.mem_of_getElem? (i := 25) (by decide +kernel))
theorem k_506 : gw (.classLink "PortBills" 178 "java/lang/ArithmeticException") := ⟨tw_3 (List.mem_of_getElem? (i := 26) (by decide +kernel)), rfl⟩
theorem k_507 : gw (.instantiable "java/lang/ArithmeticException" 6) := ⟨tw_3 (List.mem_of_getElem? (i := 27) (by decide +kernel)), rfl⟩
theorem kt_508 : (.castable "java/lang/ArithmeticException" "java/lang/ArithmeticException" : Cond) ∈ lw_tbl := tw_3 (List.mem_of_getElem? (i := 28) (by decide +kernel))
theorem k_509 : gw (.selects "java/lang/ArithmeticException" ⟨"java/lang/Throwable", "fillInStackTrace", "(I)Ljava/lang/Throwable;"⟩ ⟨"java/lang/Throwable", "fillInStackTrace", "(I)Ljava/lang/Throwable;"⟩) := ⟨tw_3 (List.mem_of_getElem? (i := 29) (by decide +kernel)), rfl⟩
theorem k_510 : gw (.lays "java/lang/ArithmeticException" "java/lang/Throwable" "cause" "Ljava/lang/Throwable;") := ⟨tw_3 (List.mem_of_getElem? (i := 30) (by decide +kernel)), rfl⟩
theorem k_511 : gw (.lays "java/lang/ArithmeticException" "java/lang/Throwable" "stackTrace" "[Ljava/lang/StackTraceElement;") := ⟨tw_3 (List.mem_of_getElem? (i := 31) (by decide +kernel)), rfl⟩
theorem k_512 : gw (.lays "java/lang/ArithmeticException" "java/lang/Throwable" "suppressedExceptions" "Ljava/util/List;") := ⟨tw_3 (List.mem_of_getElem? (i := 32) (by decide +kernel)), rfl⟩
theorem k_513 : gw (.lays "java/lang/ArithmeticException" "java/lang/Throwable" "detailMessage" "Ljava/lang/String;") := ⟨tw_3 (List.mem_of_getElem? (i := 33) (by decide +kernel)), rfl⟩
theorem k_514 : gw (.lays "java/lang/ArithmeticException" "java/lang/Throwable" "backtrace" "Ljava/lang/Object;") := ⟨tw_3 (List.mem_of_getElem? (i := 34) (by decide +kernel)), rfl⟩
theorem kt_515 : (.stringRef "PortBills" 180 "no keys at all" : Cond) ∈ lw_tbl := tw_3 (List.mem_of_getElem? (i := 35) (by decide +kernel))
theorem k_516 : gw (.methodLink "PortBills" 182 ⟨"java/lang/ArithmeticException", "<init>", "(Ljava/lang/String;)V"⟩) := ⟨tw_3 (List.mem_of_getElem? (i := 36) (by decide +kernel)), rfl⟩
theorem k_517 : gw (.instanceMethod ⟨"java/lang/ArithmeticException", "<init>", "(Ljava/lang/String;)V"⟩) := ⟨tw_3 (List.mem_of_getElem? (i := 37) (by decide +kernel)), rfl⟩
theorem k_518 : gw (.code ⟨"java/lang/ArithmeticException", "<init>", "(Ljava/lang/String;)V"⟩ prog_7_method_2_code 2 none) := ⟨tw_3 (List.mem_of_getElem? (i := 38) (by decide +kernel)), rfl⟩
theorem k_519 : gw (.methodLink "java/lang/ArithmeticException" 7 ⟨"java/lang/RuntimeException", "<init>", "(Ljava/lang/String;)V"⟩) := ⟨tw_3 (List.mem_of_getElem? (i := 39) (by decide +kernel)), rfl⟩
theorem k_520 : gw (.lays "java/lang/ArithmeticException" "java/lang/Throwable" "depth" "I") := ⟨tw_3 (List.mem_of_getElem? (i := 40) (by decide +kernel)), rfl⟩
theorem k_521 : gw (.superclass "java/lang/ArithmeticException" "java/lang/RuntimeException") := ⟨tw_3 (List.mem_of_getElem? (i := 41) (by decide +kernel)), rfl⟩
theorem k_522 : gw (.methodLink "PortBillsLaw" 109 y_LW_line) := ⟨tw_3 (List.mem_of_getElem? (i := 42) (by decide +kernel)), rfl⟩
theorem k_523 : gw (.static y_LW_line) := ⟨tw_3 (List.mem_of_getElem? (i := 43) (by decide +kernel)), rfl⟩
theorem k_524 : gw (.codeWith y_LW_line b_LW_line 5 (some .int) [(0, 9, 12, 51)]) := ⟨tw_3 (List.mem_of_getElem? (i := 44) (by decide +kernel)), rfl⟩
theorem k_525 : gw (.classLink "PortBillsLaw" 51 "java/lang/IndexOutOfBoundsException") := ⟨tw_3 (List.mem_of_getElem? (i := 45) (by decide +kernel)), rfl⟩
theorem k_526 : gw (.methodLink "PortBillsLaw" 47 y_PB_line) := ⟨tw_3 (List.mem_of_getElem? (i := 46) (by decide +kernel)), rfl⟩
theorem k_527 : gw (.instanceMethod y_PB_line) := ⟨tw_3 (List.mem_of_getElem? (i := 47) (by decide +kernel)), rfl⟩
theorem k_528 : gw (.selects "PortBills" y_PB_line y_PB_line) := ⟨tw_3 (List.mem_of_getElem? (i := 48) (by decide +kernel)), rfl⟩
theorem k_529 : gw (.code y_PB_line b_PB_line 3 (some .long)) := ⟨tw_3 (List.mem_of_getElem? (i := 49) (by decide +kernel)), rfl⟩
theorem k_530 : gw (.classLink "PortBills" 187 "java/lang/IndexOutOfBoundsException") := ⟨tw_3 (List.mem_of_getElem? (i := 50) (by decide +kernel)), rfl⟩
theorem k_531 : gw (.instantiable "java/lang/IndexOutOfBoundsException" 6) := ⟨tw_3 (List.mem_of_getElem? (i := 51) (by decide +kernel)), rfl⟩
theorem kt_532 : (.castable "java/lang/IndexOutOfBoundsException" "java/lang/IndexOutOfBoundsException" : Cond) ∈ lw_tbl := tw_3 (List.mem_of_getElem? (i := 52) (by decide +kernel))
theorem k_533 : gw (.selects "java/lang/IndexOutOfBoundsException" ⟨"java/lang/Throwable", "fillInStackTrace", "(I)Ljava/lang/Throwable;"⟩ ⟨"java/lang/Throwable", "fillInStackTrace", "(I)Ljava/lang/Throwable;"⟩) := ⟨tw_3 (List.mem_of_getElem? (i := 53) (by decide +kernel)), rfl⟩
theorem k_534 : gw (.lays "java/lang/IndexOutOfBoundsException" "java/lang/Throwable" "cause" "Ljava/lang/Throwable;") := ⟨tw_3 (List.mem_of_getElem? (i := 54) (by decide +kernel)), rfl⟩
theorem k_535 : gw (.lays "java/lang/IndexOutOfBoundsException" "java/lang/Throwable" "stackTrace" "[Ljava/lang/StackTraceElement;") := ⟨tw_3 (List.mem_of_getElem? (i := 55) (by decide +kernel)), rfl⟩
theorem k_536 : gw (.lays "java/lang/IndexOutOfBoundsException" "java/lang/Throwable" "suppressedExceptions" "Ljava/util/List;") := ⟨tw_3 (List.mem_of_getElem? (i := 56) (by decide +kernel)), rfl⟩
theorem k_537 : gw (.lays "java/lang/IndexOutOfBoundsException" "java/lang/Throwable" "detailMessage" "Ljava/lang/String;") := ⟨tw_3 (List.mem_of_getElem? (i := 57) (by decide +kernel)), rfl⟩
theorem k_538 : gw (.lays "java/lang/IndexOutOfBoundsException" "java/lang/Throwable" "backtrace" "Ljava/lang/Object;") := ⟨tw_3 (List.mem_of_getElem? (i := 58) (by decide +kernel)), rfl⟩
theorem kt_539 : (.stringRef "PortBills" 189 "no such line or what" : Cond) ∈ lw_tbl := tw_3 (List.mem_of_getElem? (i := 59) (by decide +kernel))
theorem k_540 : gw (.methodLink "PortBills" 191 ⟨"java/lang/IndexOutOfBoundsException", "<init>", "(Ljava/lang/String;)V"⟩) := ⟨tw_3 (List.mem_of_getElem? (i := 60) (by decide +kernel)), rfl⟩
theorem k_541 : gw (.instanceMethod ⟨"java/lang/IndexOutOfBoundsException", "<init>", "(Ljava/lang/String;)V"⟩) := ⟨tw_3 (List.mem_of_getElem? (i := 61) (by decide +kernel)), rfl⟩
theorem k_542 : gw (.code ⟨"java/lang/IndexOutOfBoundsException", "<init>", "(Ljava/lang/String;)V"⟩ prog_12_method_2_code 2 none) := ⟨tw_3 (List.mem_of_getElem? (i := 62) (by decide +kernel)), rfl⟩
theorem k_543 : gw (.methodLink "java/lang/IndexOutOfBoundsException" 7 ⟨"java/lang/RuntimeException", "<init>", "(Ljava/lang/String;)V"⟩) := ⟨tw_3 (List.mem_of_getElem? (i := 63) (by decide +kernel)), rfl⟩
theorem k_544 : gw (.lays "java/lang/IndexOutOfBoundsException" "java/lang/Throwable" "depth" "I") := ⟨tw_3 (List.mem_of_getElem? (i := 64) (by decide +kernel)), rfl⟩
theorem k_545 : gw (.superclass "java/lang/IndexOutOfBoundsException" "java/lang/RuntimeException") := ⟨tw_3 (List.mem_of_getElem? (i := 65) (by decide +kernel)), rfl⟩
theorem kn_546 : gn (.methodLinkNest "PortBills" 192 y_LN_part "PortBills") := ⟨tw_3 (List.mem_of_getElem? (i := 66) (by decide +kernel)), rfl⟩
theorem kt_547 : (.privateMethod y_LN_part : Cond) ∈ lw_tbl := tw_3 (List.mem_of_getElem? (i := 67) (by decide +kernel))
theorem k_548 : gw (.instanceMethod y_LN_part) := ⟨tw_3 (List.mem_of_getElem? (i := 68) (by decide +kernel)), rfl⟩
theorem k_549 : gw (.code y_LN_part b_LN_part 2 (some .long)) := ⟨tw_3 (List.mem_of_getElem? (i := 69) (by decide +kernel)), rfl⟩
theorem k_550 : gw (.classLink "PortBillsLaw" 54 "PortBillsModel") := ⟨tw_3 (List.mem_of_getElem? (i := 70) (by decide +kernel)), rfl⟩
theorem k_551 : gw (.instantiable "PortBillsModel" 23) := ⟨tw_3 (List.mem_of_getElem? (i := 71) (by decide +kernel)), rfl⟩
theorem k_552 : gw (.methodLink "PortBillsLaw" 56 y_MD_init) := ⟨tw_3 (List.mem_of_getElem? (i := 72) (by decide +kernel)), rfl⟩
theorem k_553 : gw (.instanceMethod y_MD_init) := ⟨tw_3 (List.mem_of_getElem? (i := 73) (by decide +kernel)), rfl⟩
theorem k_554 : gw (.code y_MD_init b_MD_init 1 none) := ⟨tw_3 (List.mem_of_getElem? (i := 74) (by decide +kernel)), rfl⟩
theorem k_555 : gw (.methodLink "PortBillsModel" 1 ⟨"java/lang/Object", "<init>", "()V"⟩) := ⟨tw_3 (List.mem_of_getElem? (i := 75) (by decide +kernel)), rfl⟩
theorem k_556 : gw (.fieldLink "PortBillsModel" 63 "PortBillsModel" "thrown" "I") := ⟨tw_3 (List.mem_of_getElem? (i := 76) (by decide +kernel)), rfl⟩
theorem k_557 : gw (.fieldLink "PortBillsModel" 7 "PortBillsModel" "text" "[I") := ⟨tw_3 (List.mem_of_getElem? (i := 77) (by decide +kernel)), rfl⟩
theorem k_558 : gw (.fieldLink "PortBillsModel" 75 "PortBillsModel" "signs" "I") := ⟨tw_3 (List.mem_of_getElem? (i := 78) (by decide +kernel)), rfl⟩
theorem k_559 : gw (.fieldLink "PortBillsModel" 78 "PortBillsModel" "tariffs" "I") := ⟨tw_3 (List.mem_of_getElem? (i := 79) (by decide +kernel)), rfl⟩
theorem k_560 : gw (.fieldLink "PortBillsModel" 13 "PortBillsModel" "told" "[I") := ⟨tw_3 (List.mem_of_getElem? (i := 80) (by decide +kernel)), rfl⟩
theorem k_561 : gw (.fieldLink "PortBillsModel" 81 "PortBillsModel" "newTariffs" "I") := ⟨tw_3 (List.mem_of_getElem? (i := 81) (by decide +kernel)), rfl⟩
theorem k_562 : gw (.fieldLink "PortBillsModel" 110 "PortBillsModel" "waiting" "I") := ⟨tw_3 (List.mem_of_getElem? (i := 82) (by decide +kernel)), rfl⟩
theorem k_563 : gw (.fieldLink "PortBillsModel" 16 "PortBillsModel" "eventCall" "[I") := ⟨tw_3 (List.mem_of_getElem? (i := 83) (by decide +kernel)), rfl⟩
theorem k_564 : gw (.fieldLink "PortBillsModel" 19 "PortBillsModel" "eventKind" "[I") := ⟨tw_3 (List.mem_of_getElem? (i := 84) (by decide +kernel)), rfl⟩
theorem k_565 : gw (.fieldLink "PortBillsModel" 22 "PortBillsModel" "eventUnits" "[I") := ⟨tw_3 (List.mem_of_getElem? (i := 85) (by decide +kernel)), rfl⟩
theorem k_566 : gw (.fieldLink "PortBillsModel" 25 "PortBillsModel" "discounts" "[I") := ⟨tw_3 (List.mem_of_getElem? (i := 86) (by decide +kernel)), rfl⟩
theorem k_567 : gw (.fieldLink "PortBillsModel" 28 "PortBillsModel" "discountUp" "[I") := ⟨tw_3 (List.mem_of_getElem? (i := 87) (by decide +kernel)), rfl⟩
theorem k_568 : gw (.fieldLink "PortBillsModel" 31 "PortBillsModel" "discountDown" "[I") := ⟨tw_3 (List.mem_of_getElem? (i := 88) (by decide +kernel)), rfl⟩
theorem k_569 : gw (.fieldLink "PortBillsModel" 118 "PortBillsModel" "lines" "I") := ⟨tw_3 (List.mem_of_getElem? (i := 89) (by decide +kernel)), rfl⟩
theorem k_570 : gw (.fieldLink "PortBillsModel" 34 "PortBillsModel" "lineCall" "[I") := ⟨tw_3 (List.mem_of_getElem? (i := 90) (by decide +kernel)), rfl⟩
theorem k_571 : gw (.fieldLink "PortBillsModel" 37 "PortBillsModel" "lineKind" "[I") := ⟨tw_3 (List.mem_of_getElem? (i := 91) (by decide +kernel)), rfl⟩
theorem k_572 : gw (.fieldLink "PortBillsModel" 40 "PortBillsModel" "lineUnits" "[I") := ⟨tw_3 (List.mem_of_getElem? (i := 92) (by decide +kernel)), rfl⟩
theorem k_573 : gw (.fieldLink "PortBillsModel" 43 "PortBillsModel" "lineCharged" "[I") := ⟨tw_3 (List.mem_of_getElem? (i := 93) (by decide +kernel)), rfl⟩
theorem k_574 : gw (.fieldLink "PortBillsModel" 46 "PortBillsModel" "lineCents" "[J") := ⟨tw_3 (List.mem_of_getElem? (i := 94) (by decide +kernel)), rfl⟩
theorem k_575 : gw (.fieldLink "PortBillsModel" 50 "PortBillsModel" "corrects" "[I") := ⟨tw_3 (List.mem_of_getElem? (i := 95) (by decide +kernel)), rfl⟩
theorem k_576 : gw (.fieldLink "PortBillsModel" 53 "PortBillsModel" "isDisputed" "[Z") := ⟨tw_3 (List.mem_of_getElem? (i := 96) (by decide +kernel)), rfl⟩
theorem k_577 : gw (.fieldLink "PortBillsModel" 57 "PortBillsModel" "isFallback" "[Z") := ⟨tw_3 (List.mem_of_getElem? (i := 97) (by decide +kernel)), rfl⟩
theorem k_578 : gw (.fieldLink "PortBillsModel" 60 "PortBillsModel" "paid" "[J") := ⟨tw_3 (List.mem_of_getElem? (i := 98) (by decide +kernel)), rfl⟩
theorem k_579 : gw (.lays "PortBillsModel" "PortBillsModel" "thrown" "I") := ⟨tw_3 (List.mem_of_getElem? (i := 99) (by decide +kernel)), rfl⟩
theorem k_580 : gw (.soleField "PortBillsModel" "thrown") := ⟨tw_3 (List.mem_of_getElem? (i := 100) (by decide +kernel)), rfl⟩
theorem k_581 : gw (.laysFinal "PortBillsModel" "PortBillsModel" "text" "[I") := ⟨tw_3 (List.mem_of_getElem? (i := 101) (by decide +kernel)), rfl⟩
theorem k_582 : gw (.soleField "PortBillsModel" "text") := ⟨tw_3 (List.mem_of_getElem? (i := 102) (by decide +kernel)), rfl⟩
theorem k_583 : gw (.lays "PortBillsModel" "PortBillsModel" "signs" "I") := ⟨tw_3 (List.mem_of_getElem? (i := 103) (by decide +kernel)), rfl⟩
theorem k_584 : gw (.soleField "PortBillsModel" "signs") := ⟨tw_3 (List.mem_of_getElem? (i := 104) (by decide +kernel)), rfl⟩
theorem k_585 : gw (.lays "PortBillsModel" "PortBillsModel" "tariffs" "I") := ⟨tw_3 (List.mem_of_getElem? (i := 105) (by decide +kernel)), rfl⟩
theorem k_586 : gw (.soleField "PortBillsModel" "tariffs") := ⟨tw_3 (List.mem_of_getElem? (i := 106) (by decide +kernel)), rfl⟩
theorem k_587 : gw (.laysFinal "PortBillsModel" "PortBillsModel" "told" "[I") := ⟨tw_3 (List.mem_of_getElem? (i := 107) (by decide +kernel)), rfl⟩
theorem k_588 : gw (.soleField "PortBillsModel" "told") := ⟨tw_3 (List.mem_of_getElem? (i := 108) (by decide +kernel)), rfl⟩
theorem k_589 : gw (.lays "PortBillsModel" "PortBillsModel" "newTariffs" "I") := ⟨tw_3 (List.mem_of_getElem? (i := 109) (by decide +kernel)), rfl⟩
theorem k_590 : gw (.soleField "PortBillsModel" "newTariffs") := ⟨tw_3 (List.mem_of_getElem? (i := 110) (by decide +kernel)), rfl⟩
theorem k_591 : gw (.lays "PortBillsModel" "PortBillsModel" "waiting" "I") := ⟨tw_3 (List.mem_of_getElem? (i := 111) (by decide +kernel)), rfl⟩
theorem k_592 : gw (.soleField "PortBillsModel" "waiting") := ⟨tw_3 (List.mem_of_getElem? (i := 112) (by decide +kernel)), rfl⟩
theorem k_593 : gw (.laysFinal "PortBillsModel" "PortBillsModel" "eventCall" "[I") := ⟨tw_3 (List.mem_of_getElem? (i := 113) (by decide +kernel)), rfl⟩
theorem k_594 : gw (.soleField "PortBillsModel" "eventCall") := ⟨tw_3 (List.mem_of_getElem? (i := 114) (by decide +kernel)), rfl⟩
theorem k_595 : gw (.laysFinal "PortBillsModel" "PortBillsModel" "eventKind" "[I") := ⟨tw_3 (List.mem_of_getElem? (i := 115) (by decide +kernel)), rfl⟩
theorem k_596 : gw (.soleField "PortBillsModel" "eventKind") := ⟨tw_3 (List.mem_of_getElem? (i := 116) (by decide +kernel)), rfl⟩
theorem k_597 : gw (.laysFinal "PortBillsModel" "PortBillsModel" "eventUnits" "[I") := ⟨tw_3 (List.mem_of_getElem? (i := 117) (by decide +kernel)), rfl⟩
theorem k_598 : gw (.soleField "PortBillsModel" "eventUnits") := ⟨tw_3 (List.mem_of_getElem? (i := 118) (by decide +kernel)), rfl⟩
theorem k_599 : gw (.laysFinal "PortBillsModel" "PortBillsModel" "discounts" "[I") := ⟨tw_3 (List.mem_of_getElem? (i := 119) (by decide +kernel)), rfl⟩
theorem k_600 : gw (.soleField "PortBillsModel" "discounts") := ⟨tw_3 (List.mem_of_getElem? (i := 120) (by decide +kernel)), rfl⟩
theorem k_601 : gw (.laysFinal "PortBillsModel" "PortBillsModel" "discountUp" "[I") := ⟨tw_3 (List.mem_of_getElem? (i := 121) (by decide +kernel)), rfl⟩
theorem k_602 : gw (.soleField "PortBillsModel" "discountUp") := ⟨tw_3 (List.mem_of_getElem? (i := 122) (by decide +kernel)), rfl⟩
theorem k_603 : gw (.laysFinal "PortBillsModel" "PortBillsModel" "discountDown" "[I") := ⟨tw_3 (List.mem_of_getElem? (i := 123) (by decide +kernel)), rfl⟩
theorem k_604 : gw (.soleField "PortBillsModel" "discountDown") := ⟨tw_3 (List.mem_of_getElem? (i := 124) (by decide +kernel)), rfl⟩
theorem k_605 : gw (.lays "PortBillsModel" "PortBillsModel" "lines" "I") := ⟨tw_3 (List.mem_of_getElem? (i := 125) (by decide +kernel)), rfl⟩
theorem k_606 : gw (.soleField "PortBillsModel" "lines") := ⟨tw_3 (List.mem_of_getElem? (i := 126) (by decide +kernel)), rfl⟩
theorem k_607 : gw (.laysFinal "PortBillsModel" "PortBillsModel" "lineCall" "[I") := ⟨tw_3 (List.mem_of_getElem? (i := 127) (by decide +kernel)), rfl⟩
theorem k_608 : gw (.soleField "PortBillsModel" "lineCall") := ⟨tw_3 (List.mem_of_getElem? (i := 128) (by decide +kernel)), rfl⟩
theorem k_609 : gw (.laysFinal "PortBillsModel" "PortBillsModel" "lineKind" "[I") := ⟨tw_3 (List.mem_of_getElem? (i := 129) (by decide +kernel)), rfl⟩
theorem k_610 : gw (.soleField "PortBillsModel" "lineKind") := ⟨tw_3 (List.mem_of_getElem? (i := 130) (by decide +kernel)), rfl⟩
theorem k_611 : gw (.laysFinal "PortBillsModel" "PortBillsModel" "lineUnits" "[I") := ⟨tw_3 (List.mem_of_getElem? (i := 131) (by decide +kernel)), rfl⟩
theorem k_612 : gw (.soleField "PortBillsModel" "lineUnits") := ⟨tw_3 (List.mem_of_getElem? (i := 132) (by decide +kernel)), rfl⟩
theorem k_613 : gw (.laysFinal "PortBillsModel" "PortBillsModel" "lineCharged" "[I") := ⟨tw_3 (List.mem_of_getElem? (i := 133) (by decide +kernel)), rfl⟩
theorem k_614 : gw (.soleField "PortBillsModel" "lineCharged") := ⟨tw_3 (List.mem_of_getElem? (i := 134) (by decide +kernel)), rfl⟩
theorem k_615 : gw (.laysFinal "PortBillsModel" "PortBillsModel" "lineCents" "[J") := ⟨tw_3 (List.mem_of_getElem? (i := 135) (by decide +kernel)), rfl⟩
theorem k_616 : gw (.soleField "PortBillsModel" "lineCents") := ⟨tw_3 (List.mem_of_getElem? (i := 136) (by decide +kernel)), rfl⟩
theorem k_617 : gw (.laysFinal "PortBillsModel" "PortBillsModel" "corrects" "[I") := ⟨tw_3 (List.mem_of_getElem? (i := 137) (by decide +kernel)), rfl⟩
theorem k_618 : gw (.soleField "PortBillsModel" "corrects") := ⟨tw_3 (List.mem_of_getElem? (i := 138) (by decide +kernel)), rfl⟩
theorem k_619 : gw (.laysFinal "PortBillsModel" "PortBillsModel" "isDisputed" "[Z") := ⟨tw_3 (List.mem_of_getElem? (i := 139) (by decide +kernel)), rfl⟩
theorem k_620 : gw (.soleField "PortBillsModel" "isDisputed") := ⟨tw_3 (List.mem_of_getElem? (i := 140) (by decide +kernel)), rfl⟩
theorem k_621 : gw (.laysFinal "PortBillsModel" "PortBillsModel" "isFallback" "[Z") := ⟨tw_3 (List.mem_of_getElem? (i := 141) (by decide +kernel)), rfl⟩
theorem k_622 : gw (.soleField "PortBillsModel" "isFallback") := ⟨tw_3 (List.mem_of_getElem? (i := 142) (by decide +kernel)), rfl⟩
theorem k_623 : gw (.laysFinal "PortBillsModel" "PortBillsModel" "paid" "[J") := ⟨tw_3 (List.mem_of_getElem? (i := 143) (by decide +kernel)), rfl⟩
theorem k_624 : gw (.soleField "PortBillsModel" "paid") := ⟨tw_3 (List.mem_of_getElem? (i := 144) (by decide +kernel)), rfl⟩
theorem k_625 : gw (.superclass "PortBillsModel" "java/lang/Object") := ⟨tw_3 (List.mem_of_getElem? (i := 145) (by decide +kernel)), rfl⟩
theorem k_626 : gw (.arrayClass .boolean) := ⟨tw_3 (List.mem_of_getElem? (i := 146) (by decide +kernel)), rfl⟩
theorem k_627 : gw (.methodLink "PortBillsLaw" 73 y_MD_thrown) := ⟨tw_3 (List.mem_of_getElem? (i := 147) (by decide +kernel)), rfl⟩
theorem k_628 : gw (.instanceMethod y_MD_thrown) := ⟨tw_3 (List.mem_of_getElem? (i := 148) (by decide +kernel)), rfl⟩
theorem k_629 : gw (.selects "PortBillsModel" y_MD_thrown y_MD_thrown) := ⟨tw_3 (List.mem_of_getElem? (i := 149) (by decide +kernel)), rfl⟩
theorem k_630 : gw (.code y_MD_thrown b_MD_thrown 1 (some .int)) := ⟨tw_3 (List.mem_of_getElem? (i := 150) (by decide +kernel)), rfl⟩
theorem k_631 : gw (.methodLink "PortBillsLaw" 61 y_MD_sign) := ⟨tw_3 (List.mem_of_getElem? (i := 151) (by decide +kernel)), rfl⟩
theorem k_632 : gw (.instanceMethod y_MD_sign) := ⟨tw_3 (List.mem_of_getElem? (i := 152) (by decide +kernel)), rfl⟩
theorem k_633 : gw (.selects "PortBillsModel" y_MD_sign y_MD_sign) := ⟨tw_3 (List.mem_of_getElem? (i := 153) (by decide +kernel)), rfl⟩
theorem k_634 : gw (.code y_MD_sign b_MD_sign 2 (some .boolean)) := ⟨tw_3 (List.mem_of_getElem? (i := 154) (by decide +kernel)), rfl⟩
theorem k_635 : gw (.constantLong "PortBillsModel" 67 33) := ⟨tw_3 (List.mem_of_getElem? (i := 155) (by decide +kernel)), rfl⟩
theorem k_636 : gw (.constantLong "PortBillsModel" 69 126) := ⟨tw_3 (List.mem_of_getElem? (i := 156) (by decide +kernel)), rfl⟩
theorem k_637 : gw (.methodLink "PortBillsModel" 71 y_MD_in) := ⟨tw_3 (List.mem_of_getElem? (i := 157) (by decide +kernel)), rfl⟩
theorem k_638 : gw (.static y_MD_in) := ⟨tw_3 (List.mem_of_getElem? (i := 158) (by decide +kernel)), rfl⟩
theorem k_639 : gw (.code y_MD_in b_MD_in 6 (some .boolean)) := ⟨tw_3 (List.mem_of_getElem? (i := 159) (by decide +kernel)), rfl⟩
theorem k_640 : gw (.methodLink "PortBillsLaw" 66 y_MD_read) := ⟨tw_3 (List.mem_of_getElem? (i := 160) (by decide +kernel)), rfl⟩
theorem k_641 : gw (.instanceMethod y_MD_read) := ⟨tw_3 (List.mem_of_getElem? (i := 161) (by decide +kernel)), rfl⟩
theorem k_642 : gw (.selects "PortBillsModel" y_MD_read y_MD_read) := ⟨tw_3 (List.mem_of_getElem? (i := 162) (by decide +kernel)), rfl⟩
theorem k_643 : gw (.code y_MD_read b_MD_read 12 (some .int)) := ⟨tw_3 (List.mem_of_getElem? (i := 163) (by decide +kernel)), rfl⟩
theorem k_644 : gw (.constantLong "PortBillsModel" 84 48) := ⟨tw_3 (List.mem_of_getElem? (i := 164) (by decide +kernel)), rfl⟩
theorem k_645 : gw (.constantLong "PortBillsModel" 86 57) := ⟨tw_3 (List.mem_of_getElem? (i := 165) (by decide +kernel)), rfl⟩
theorem k_646 : gw (.constantLong "PortBillsModel" 88 65) := ⟨tw_3 (List.mem_of_getElem? (i := 166) (by decide +kernel)), rfl⟩
theorem k_647 : gw (.constantLong "PortBillsModel" 90 70) := ⟨tw_3 (List.mem_of_getElem? (i := 167) (by decide +kernel)), rfl⟩
theorem k_648 : gw (.methodLink "PortBillsModel" 92 y_MD_begins) := ⟨tw_3 (List.mem_of_getElem? (i := 168) (by decide +kernel)), rfl⟩
theorem k_649 : gw (.static y_MD_begins) := ⟨tw_3 (List.mem_of_getElem? (i := 169) (by decide +kernel)), rfl⟩
theorem k_650 : gw (.code y_MD_begins b_MD_begins 1 (some .int)) := ⟨tw_3 (List.mem_of_getElem? (i := 170) (by decide +kernel)), rfl⟩
theorem k_651 : gw (.methodLink "PortBillsLaw" 72 y_MD_tariff) := ⟨tw_3 (List.mem_of_getElem? (i := 171) (by decide +kernel)), rfl⟩
theorem k_652 : gw (.instanceMethod y_MD_tariff) := ⟨tw_3 (List.mem_of_getElem? (i := 172) (by decide +kernel)), rfl⟩
theorem k_653 : gw (.selects "PortBillsModel" y_MD_tariff y_MD_tariff) := ⟨tw_3 (List.mem_of_getElem? (i := 173) (by decide +kernel)), rfl⟩
theorem k_654 : gw (.code y_MD_tariff b_MD_tariff 3 (some .int)) := ⟨tw_3 (List.mem_of_getElem? (i := 174) (by decide +kernel)), rfl⟩
theorem k_655 : gw (.methodLink "PortBillsModel" 96 y_MD_isKind) := ⟨tw_3 (List.mem_of_getElem? (i := 175) (by decide +kernel)), rfl⟩
theorem k_656 : gw (.static y_MD_isKind) := ⟨tw_3 (List.mem_of_getElem? (i := 176) (by decide +kernel)), rfl⟩
theorem k_657 : gw (.code y_MD_isKind b_MD_isKind 1 (some .boolean)) := ⟨tw_3 (List.mem_of_getElem? (i := 177) (by decide +kernel)), rfl⟩
theorem k_658 : gw (.constantLong "PortBillsModel" 100 3) := ⟨tw_3 (List.mem_of_getElem? (i := 178) (by decide +kernel)), rfl⟩
theorem k_659 : gw (.methodLink "PortBillsModel" 102 y_MD_fails) := ⟨tw_3 (List.mem_of_getElem? (i := 179) (by decide +kernel)), rfl⟩
theorem kt_660 : (.privateMethod y_MD_fails : Cond) ∈ lw_tbl := tw_3 (List.mem_of_getElem? (i := 180) (by decide +kernel))
theorem k_661 : gw (.instanceMethod y_MD_fails) := ⟨tw_3 (List.mem_of_getElem? (i := 181) (by decide +kernel)), rfl⟩
theorem k_662 : gw (.code y_MD_fails b_MD_fails 2 (some .int)) := ⟨tw_3 (List.mem_of_getElem? (i := 182) (by decide +kernel)), rfl⟩
theorem k_663 : gw (.methodLink "PortBillsLaw" 79 y_MD_event) := ⟨tw_3 (List.mem_of_getElem? (i := 183) (by decide +kernel)), rfl⟩
theorem k_664 : gw (.instanceMethod y_MD_event) := ⟨tw_3 (List.mem_of_getElem? (i := 184) (by decide +kernel)), rfl⟩
theorem k_665 : gw (.selects "PortBillsModel" y_MD_event y_MD_event) := ⟨tw_3 (List.mem_of_getElem? (i := 185) (by decide +kernel)), rfl⟩
theorem k_666 : gw (.code y_MD_event b_MD_event 4 (some .int)) := ⟨tw_3 (List.mem_of_getElem? (i := 186) (by decide +kernel)), rfl⟩
theorem k_667 : gw (.methodLink "PortBillsModel" 105 y_MD_isCall) := ⟨tw_3 (List.mem_of_getElem? (i := 187) (by decide +kernel)), rfl⟩
theorem k_668 : gw (.static y_MD_isCall) := ⟨tw_3 (List.mem_of_getElem? (i := 188) (by decide +kernel)), rfl⟩
theorem k_669 : gw (.code y_MD_isCall b_MD_isCall 1 (some .boolean)) := ⟨tw_3 (List.mem_of_getElem? (i := 189) (by decide +kernel)), rfl⟩
theorem k_670 : gw (.constantLong "PortBillsModel" 108 50000) := ⟨tw_3 (List.mem_of_getElem? (i := 190) (by decide +kernel)), rfl⟩
theorem k_671 : gw (.methodLink "PortBillsModel" 113 y_MD_unitOf) := ⟨tw_3 (List.mem_of_getElem? (i := 191) (by decide +kernel)), rfl⟩
theorem k_672 : gw (.static y_MD_unitOf) := ⟨tw_3 (List.mem_of_getElem? (i := 192) (by decide +kernel)), rfl⟩
theorem k_673 : gw (.code y_MD_unitOf b_MD_unitOf 1 (some .int)) := ⟨tw_3 (List.mem_of_getElem? (i := 193) (by decide +kernel)), rfl⟩
theorem k_674 : gw (.methodLink "PortBillsLaw" 84 y_MD_discount) := ⟨tw_3 (List.mem_of_getElem? (i := 194) (by decide +kernel)), rfl⟩
theorem k_675 : gw (.instanceMethod y_MD_discount) := ⟨tw_3 (List.mem_of_getElem? (i := 195) (by decide +kernel)), rfl⟩
theorem k_676 : gw (.selects "PortBillsModel" y_MD_discount y_MD_discount) := ⟨tw_3 (List.mem_of_getElem? (i := 196) (by decide +kernel)), rfl⟩
theorem k_677 : gw (.code y_MD_discount b_MD_discount 6 (some .boolean)) := ⟨tw_3 (List.mem_of_getElem? (i := 197) (by decide +kernel)), rfl⟩
theorem k_678 : gw (.constantLong "PortBillsModel" 116 100) := ⟨tw_3 (List.mem_of_getElem? (i := 198) (by decide +kernel)), rfl⟩
theorem k_679 : gw (.methodLink "PortBillsLaw" 88 y_MD_bill) := ⟨tw_3 (List.mem_of_getElem? (i := 199) (by decide +kernel)), rfl⟩
theorem k_680 : gw (.instanceMethod y_MD_bill) := ⟨tw_3 (List.mem_of_getElem? (i := 200) (by decide +kernel)), rfl⟩
theorem k_681 : gw (.selects "PortBillsModel" y_MD_bill y_MD_bill) := ⟨tw_3 (List.mem_of_getElem? (i := 201) (by decide +kernel)), rfl⟩
theorem k_682 : gw (.code y_MD_bill b_MD_bill 4 (some .int)) := ⟨tw_3 (List.mem_of_getElem? (i := 202) (by decide +kernel)), rfl⟩
theorem k_683 : gw (.methodLink "PortBillsModel" 121 y_MD_unitsOf) := ⟨tw_3 (List.mem_of_getElem? (i := 203) (by decide +kernel)), rfl⟩
theorem kt_684 : (.privateMethod y_MD_unitsOf : Cond) ∈ lw_tbl := tw_3 (List.mem_of_getElem? (i := 204) (by decide +kernel))
theorem k_685 : gw (.instanceMethod y_MD_unitsOf) := ⟨tw_3 (List.mem_of_getElem? (i := 205) (by decide +kernel)), rfl⟩
theorem k_686 : gw (.code y_MD_unitsOf b_MD_unitsOf 5 (some .int)) := ⟨tw_3 (List.mem_of_getElem? (i := 206) (by decide +kernel)), rfl⟩
theorem k_687 : gw (.methodLink "PortBillsModel" 131 y_MD_billKind) := ⟨tw_3 (List.mem_of_getElem? (i := 207) (by decide +kernel)), rfl⟩
theorem kt_688 : (.privateMethod y_MD_billKind : Cond) ∈ lw_tbl := tw_3 (List.mem_of_getElem? (i := 208) (by decide +kernel))
theorem k_689 : gw (.instanceMethod y_MD_billKind) := ⟨tw_3 (List.mem_of_getElem? (i := 209) (by decide +kernel)), rfl⟩
theorem k_690 : gw (.code y_MD_billKind b_MD_billKind 16 none) := ⟨tw_3 (List.mem_of_getElem? (i := 210) (by decide +kernel)), rfl⟩
theorem k_691 : gw (.constantLong "PortBillsModel" 125 2) := ⟨tw_3 (List.mem_of_getElem? (i := 211) (by decide +kernel)), rfl⟩
theorem k_692 : gw (.methodLink "PortBillsModel" 127 y_MD_newLine) := ⟨tw_3 (List.mem_of_getElem? (i := 212) (by decide +kernel)), rfl⟩
theorem kt_693 : (.privateMethod y_MD_newLine : Cond) ∈ lw_tbl := tw_3 (List.mem_of_getElem? (i := 213) (by decide +kernel))
theorem k_694 : gw (.instanceMethod y_MD_newLine) := ⟨tw_3 (List.mem_of_getElem? (i := 214) (by decide +kernel)), rfl⟩
theorem k_695 : gw (.code y_MD_newLine b_MD_newLine 8 none) := ⟨tw_3 (List.mem_of_getElem? (i := 215) (by decide +kernel)), rfl⟩
theorem k_696 : gw (.methodLink "PortBillsModel" 135 y_MD_takeEvents) := ⟨tw_3 (List.mem_of_getElem? (i := 216) (by decide +kernel)), rfl⟩
theorem kt_697 : (.privateMethod y_MD_takeEvents : Cond) ∈ lw_tbl := tw_3 (List.mem_of_getElem? (i := 217) (by decide +kernel))
theorem k_698 : gw (.instanceMethod y_MD_takeEvents) := ⟨tw_3 (List.mem_of_getElem? (i := 218) (by decide +kernel)), rfl⟩
theorem k_699 : gw (.code y_MD_takeEvents b_MD_takeEvents 4 none) := ⟨tw_3 (List.mem_of_getElem? (i := 219) (by decide +kernel)), rfl⟩
theorem k_700 : gw (.methodLink "PortBillsLaw" 94 y_MD_correct) := ⟨tw_3 (List.mem_of_getElem? (i := 220) (by decide +kernel)), rfl⟩
theorem k_701 : gw (.instanceMethod y_MD_correct) := ⟨tw_3 (List.mem_of_getElem? (i := 221) (by decide +kernel)), rfl⟩
theorem k_702 : gw (.selects "PortBillsModel" y_MD_correct y_MD_correct) := ⟨tw_3 (List.mem_of_getElem? (i := 222) (by decide +kernel)), rfl⟩
theorem k_703 : gw (.code y_MD_correct b_MD_correct 4 (some .int)) := ⟨tw_3 (List.mem_of_getElem? (i := 223) (by decide +kernel)), rfl⟩
theorem k_704 : gw (.methodLink "PortBillsModel" 139 y_MD_isLine) := ⟨tw_3 (List.mem_of_getElem? (i := 224) (by decide +kernel)), rfl⟩
theorem kt_705 : (.privateMethod y_MD_isLine : Cond) ∈ lw_tbl := tw_3 (List.mem_of_getElem? (i := 225) (by decide +kernel))
theorem k_706 : gw (.instanceMethod y_MD_isLine) := ⟨tw_3 (List.mem_of_getElem? (i := 226) (by decide +kernel)), rfl⟩
theorem k_707 : gw (.code y_MD_isLine b_MD_isLine 2 (some .boolean)) := ⟨tw_3 (List.mem_of_getElem? (i := 227) (by decide +kernel)), rfl⟩
theorem k_708 : gw (.constantLong "PortBillsModel" 142 1000000000000) := ⟨tw_3 (List.mem_of_getElem? (i := 228) (by decide +kernel)), rfl⟩
theorem k_709 : gw (.methodLink "PortBillsModel" 144 y_MD_whole) := ⟨tw_3 (List.mem_of_getElem? (i := 229) (by decide +kernel)), rfl⟩
theorem kt_710 : (.privateMethod y_MD_whole : Cond) ∈ lw_tbl := tw_3 (List.mem_of_getElem? (i := 230) (by decide +kernel))
theorem k_711 : gw (.instanceMethod y_MD_whole) := ⟨tw_3 (List.mem_of_getElem? (i := 231) (by decide +kernel)), rfl⟩
theorem k_712 : gw (.code y_MD_whole b_MD_whole 5 (some .long)) := ⟨tw_3 (List.mem_of_getElem? (i := 232) (by decide +kernel)), rfl⟩
theorem k_713 : gw (.methodLink "PortBillsLaw" 98 y_MD_dispute) := ⟨tw_3 (List.mem_of_getElem? (i := 233) (by decide +kernel)), rfl⟩
theorem k_714 : gw (.instanceMethod y_MD_dispute) := ⟨tw_3 (List.mem_of_getElem? (i := 234) (by decide +kernel)), rfl⟩
theorem k_715 : gw (.selects "PortBillsModel" y_MD_dispute y_MD_dispute) := ⟨tw_3 (List.mem_of_getElem? (i := 235) (by decide +kernel)), rfl⟩
theorem k_716 : gw (.code y_MD_dispute b_MD_dispute 3 (some .int)) := ⟨tw_3 (List.mem_of_getElem? (i := 236) (by decide +kernel)), rfl⟩
theorem k_717 : gw (.methodLink "PortBillsLaw" 101 y_MD_pay) := ⟨tw_3 (List.mem_of_getElem? (i := 237) (by decide +kernel)), rfl⟩
theorem k_718 : gw (.instanceMethod y_MD_pay) := ⟨tw_3 (List.mem_of_getElem? (i := 238) (by decide +kernel)), rfl⟩
theorem k_719 : gw (.selects "PortBillsModel" y_MD_pay y_MD_pay) := ⟨tw_3 (List.mem_of_getElem? (i := 239) (by decide +kernel)), rfl⟩
theorem k_720 : gw (.code y_MD_pay b_MD_pay 4 (some .long)) := ⟨tw_4 (List.mem_of_getElem? (i := 0) (by decide +kernel)), rfl⟩
theorem k_721 : gw (.methodLink "PortBillsModel" 151 y_MD_left) := ⟨tw_4 (List.mem_of_getElem? (i := 1) (by decide +kernel)), rfl⟩
theorem kt_722 : (.privateMethod y_MD_left : Cond) ∈ lw_tbl := tw_4 (List.mem_of_getElem? (i := 2) (by decide +kernel))
theorem k_723 : gw (.instanceMethod y_MD_left) := ⟨tw_4 (List.mem_of_getElem? (i := 3) (by decide +kernel)), rfl⟩
theorem k_724 : gw (.code y_MD_left b_MD_left 5 (some .long)) := ⟨tw_4 (List.mem_of_getElem? (i := 4) (by decide +kernel)), rfl⟩
theorem k_725 : gw (.methodLink "PortBillsModel" 148 y_MD_isOut) := ⟨tw_4 (List.mem_of_getElem? (i := 5) (by decide +kernel)), rfl⟩
theorem kt_726 : (.privateMethod y_MD_isOut : Cond) ∈ lw_tbl := tw_4 (List.mem_of_getElem? (i := 6) (by decide +kernel))
theorem k_727 : gw (.instanceMethod y_MD_isOut) := ⟨tw_4 (List.mem_of_getElem? (i := 7) (by decide +kernel)), rfl⟩
theorem k_728 : gw (.code y_MD_isOut b_MD_isOut 2 (some .boolean)) := ⟨tw_4 (List.mem_of_getElem? (i := 8) (by decide +kernel)), rfl⟩
theorem k_729 : gw (.methodLink "PortBillsLaw" 104 y_MD_unpaid) := ⟨tw_4 (List.mem_of_getElem? (i := 9) (by decide +kernel)), rfl⟩
theorem k_730 : gw (.instanceMethod y_MD_unpaid) := ⟨tw_4 (List.mem_of_getElem? (i := 10) (by decide +kernel)), rfl⟩
theorem k_731 : gw (.selects "PortBillsModel" y_MD_unpaid y_MD_unpaid) := ⟨tw_4 (List.mem_of_getElem? (i := 11) (by decide +kernel)), rfl⟩
theorem k_732 : gw (.code y_MD_unpaid b_MD_unpaid 2 (some .long)) := ⟨tw_4 (List.mem_of_getElem? (i := 12) (by decide +kernel)), rfl⟩
theorem k_733 : gw (.methodLink "PortBillsLaw" 108 y_MD_share) := ⟨tw_4 (List.mem_of_getElem? (i := 13) (by decide +kernel)), rfl⟩
theorem k_734 : gw (.instanceMethod y_MD_share) := ⟨tw_4 (List.mem_of_getElem? (i := 14) (by decide +kernel)), rfl⟩
theorem k_735 : gw (.selects "PortBillsModel" y_MD_share y_MD_share) := ⟨tw_4 (List.mem_of_getElem? (i := 15) (by decide +kernel)), rfl⟩
theorem k_736 : gw (.code y_MD_share b_MD_share 5 (some .long)) := ⟨tw_4 (List.mem_of_getElem? (i := 16) (by decide +kernel)), rfl⟩
theorem k_737 : gw (.constantLong "PortBillsModel" 154 1000000) := ⟨tw_4 (List.mem_of_getElem? (i := 17) (by decide +kernel)), rfl⟩
theorem k_738 : gw (.methodLink "PortBillsLaw" 111 y_MD_line) := ⟨tw_4 (List.mem_of_getElem? (i := 18) (by decide +kernel)), rfl⟩
theorem k_739 : gw (.instanceMethod y_MD_line) := ⟨tw_4 (List.mem_of_getElem? (i := 19) (by decide +kernel)), rfl⟩
theorem k_740 : gw (.selects "PortBillsModel" y_MD_line y_MD_line) := ⟨tw_4 (List.mem_of_getElem? (i := 20) (by decide +kernel)), rfl⟩
theorem k_741 : gw (.code y_MD_line b_MD_line 3 (some .long)) := ⟨tw_4 (List.mem_of_getElem? (i := 21) (by decide +kernel)), rfl⟩
theorem k_742 : gw (.methodLink "PortBillsLaw" 115 y_MD_count) := ⟨tw_4 (List.mem_of_getElem? (i := 22) (by decide +kernel)), rfl⟩
theorem k_743 : gw (.instanceMethod y_MD_count) := ⟨tw_4 (List.mem_of_getElem? (i := 23) (by decide +kernel)), rfl⟩
theorem k_744 : gw (.selects "PortBillsModel" y_MD_count y_MD_count) := ⟨tw_4 (List.mem_of_getElem? (i := 24) (by decide +kernel)), rfl⟩
theorem k_745 : gw (.code y_MD_count b_MD_count 4 (some .int)) := ⟨tw_4 (List.mem_of_getElem? (i := 25) (by decide +kernel)), rfl⟩
theorem k_746 : gw (.constantLong "PortBillsLaw" 89 4294967295) := ⟨tw_4 (List.mem_of_getElem? (i := 26) (by decide +kernel)), rfl⟩
theorem k_747 : gw (.sameMethod "java/lang/Throwable" "java/lang/Throwable" "fillInStackTrace" "(I)Ljava/lang/Throwable;") := ⟨tw_4 (List.mem_of_getElem? (i := 27) (by decide +kernel)), rfl⟩
theorem kt_748 : (.castable "PortBills$Line" "PortBills$Line" : Cond) ∈ lw_tbl := tw_4 (List.mem_of_getElem? (i := 28) (by decide +kernel))
theorem k_749 : gw (.sameMethod "[Ljava/lang/Object;" "java/lang/Object" "getClass" "()Ljava/lang/Class;") := ⟨tw_4 (List.mem_of_getElem? (i := 29) (by decide +kernel)), rfl⟩
theorem k_750 : gw (.selects "[Ljava/lang/Object;" ⟨"java/lang/Object", "getClass", "()Ljava/lang/Class;"⟩ ⟨"java/lang/Object", "getClass", "()Ljava/lang/Class;"⟩) := ⟨tw_4 (List.mem_of_getElem? (i := 30) (by decide +kernel)), rfl⟩
theorem kt_751 : (.declares ⟨"java/lang/Object", "getClass", "()Ljava/lang/Class;"⟩ : Cond) ∈ lw_tbl := tw_4 (List.mem_of_getElem? (i := 31) (by decide +kernel))
theorem kt_752 : (.castable "PortBills" "java/lang/Object" : Cond) ∈ lw_tbl := tw_4 (List.mem_of_getElem? (i := 32) (by decide +kernel))
theorem kt_753 : (.castable "PortBills$TariffText" "java/lang/Object" : Cond) ∈ lw_tbl := tw_4 (List.mem_of_getElem? (i := 33) (by decide +kernel))
theorem kt_754 : (.castable "PortBillsModel" "java/lang/Object" : Cond) ∈ lw_tbl := tw_4 (List.mem_of_getElem? (i := 34) (by decide +kernel))
theorem kt_755 : (.castable "PortBills$Line" "java/lang/Object" : Cond) ∈ lw_tbl := tw_4 (List.mem_of_getElem? (i := 35) (by decide +kernel))
theorem kt_756 : (.castable "java/lang/String" "java/lang/Object" : Cond) ∈ lw_tbl := tw_4 (List.mem_of_getElem? (i := 36) (by decide +kernel))
theorem ks_0 : gw (.selects "PortBills$TariffText" y_TT_takes y_TT_takes) := ⟨tw_s 0 (q := (y_TT_takes, 5)) (by decide +kernel) rfl, rfl⟩
theorem ks_1 : gw (.selects "PortBills$TariffText" y_TT_readRows y_TT_readRows) := ⟨tw_s 1 (q := (y_TT_readRows, 5)) (by decide +kernel) rfl, rfl⟩
theorem ks_2 : gw (.selects "PortBills$TariffText" y_TT_readRow y_TT_readRow) := ⟨tw_s 2 (q := (y_TT_readRow, 5)) (by decide +kernel) rfl, rfl⟩
theorem ks_3 : gw (.selects "PortBills$TariffText" y_TT_next y_TT_next) := ⟨tw_s 3 (q := (y_TT_next, 5)) (by decide +kernel) rfl, rfl⟩
theorem ks_4 : gw (.selects "PortBills$TariffText" y_TT_readNumber y_TT_readNumber) := ⟨tw_s 4 (q := (y_TT_readNumber, 5)) (by decide +kernel) rfl, rfl⟩
theorem ks_5 : gw (.selects "PortBills$TariffText" y_TT_passes y_TT_passes) := ⟨tw_s 5 (q := (y_TT_passes, 5)) (by decide +kernel) rfl, rfl⟩
theorem ks_6 : gw (.selects "PortBills" y_PB_takeOverTariffs y_PB_takeOverTariffs) := ⟨tw_s 6 (q := (y_PB_takeOverTariffs, 11)) (by decide +kernel) rfl, rfl⟩
theorem ks_7 : gw (.selects "PortBills$TariffText" y_TT_clear y_TT_clear) := ⟨tw_s 7 (q := (y_TT_clear, 5)) (by decide +kernel) rfl, rfl⟩
theorem ks_8 : gw (.selects "PortBills" y_PB_linesOf y_PB_linesOf) := ⟨tw_s 8 (q := (y_PB_linesOf, 11)) (by decide +kernel) rfl, rfl⟩
theorem ks_9 : gw (.selects "java/lang/Throwable" ⟨"java/lang/Throwable", "fillInStackTrace", "(I)Ljava/lang/Throwable;"⟩ ⟨"java/lang/Throwable", "fillInStackTrace", "(I)Ljava/lang/Throwable;"⟩) := ⟨tw_s 9 (q := (⟨"java/lang/Throwable", "fillInStackTrace", "(I)Ljava/lang/Throwable;"⟩, 6)) (by decide +kernel) rfl, rfl⟩
theorem ks_10 : gw (.selects "PortBills" y_PB_hasTariff y_PB_hasTariff) := ⟨tw_s 10 (q := (y_PB_hasTariff, 11)) (by decide +kernel) rfl, rfl⟩
theorem ks_11 : gw (.selects "PortBills" y_PB_kindsThatWait y_PB_kindsThatWait) := ⟨tw_s 11 (q := (y_PB_kindsThatWait, 11)) (by decide +kernel) rfl, rfl⟩
theorem ks_12 : gw (.selects "PortBills" y_PB_billedLine y_PB_billedLine) := ⟨tw_s 12 (q := (y_PB_billedLine, 11)) (by decide +kernel) rfl, rfl⟩
theorem ks_13 : gw (.selects "PortBills" y_PB_centsFor y_PB_centsFor) := ⟨tw_s 13 (q := (y_PB_centsFor, 11)) (by decide +kernel) rfl, rfl⟩
theorem ks_14 : gw (.selects "java/util/ArrayList" y_AL_add2 y_AL_add2) := ⟨tw_s 14 (q := (y_AL_add2, 3)) (by decide +kernel) rfl, rfl⟩
theorem ks_15 : gw (.selects "java/util/ArrayList" y_AL_grow y_AL_grow) := ⟨tw_s 15 (q := (y_AL_grow, 3)) (by decide +kernel) rfl, rfl⟩
theorem ks_16 : gw (.selects "java/util/ArrayList" y_AL_grow2 y_AL_grow2) := ⟨tw_s 16 (q := (y_AL_grow2, 3)) (by decide +kernel) rfl, rfl⟩
theorem ks_17 : gw (.selects "PortBills" y_PB_forgetEvents y_PB_forgetEvents) := ⟨tw_s 17 (q := (y_PB_forgetEvents, 11)) (by decide +kernel) rfl, rfl⟩
theorem ks_18 : gw (.selects "PortBills" y_PB_isLine y_PB_isLine) := ⟨tw_s 18 (q := (y_PB_isLine, 11)) (by decide +kernel) rfl, rfl⟩
theorem ks_19 : gw (.selects "PortBills$Line" y_LN_isCorrection y_LN_isCorrection) := ⟨tw_s 19 (q := (y_LN_isCorrection, 9)) (by decide +kernel) rfl, rfl⟩
theorem ks_20 : gw (.selects "PortBills" y_PB_owedNow y_PB_owedNow) := ⟨tw_s 20 (q := (y_PB_owedNow, 11)) (by decide +kernel) rfl, rfl⟩
theorem ks_21 : gw (.selects "PortBills$Line" y_LN_part y_LN_part) := ⟨tw_s 21 (q := (y_LN_part, 9)) (by decide +kernel) rfl, rfl⟩
theorem ks_22 : gw (.selects "PortBillsModel" y_MD_fails y_MD_fails) := ⟨tw_s 22 (q := (y_MD_fails, 23)) (by decide +kernel) rfl, rfl⟩
theorem ks_23 : gw (.selects "PortBillsModel" y_MD_unitsOf y_MD_unitsOf) := ⟨tw_s 23 (q := (y_MD_unitsOf, 23)) (by decide +kernel) rfl, rfl⟩
theorem ks_24 : gw (.selects "PortBillsModel" y_MD_billKind y_MD_billKind) := ⟨tw_s 24 (q := (y_MD_billKind, 23)) (by decide +kernel) rfl, rfl⟩
theorem ks_25 : gw (.selects "PortBillsModel" y_MD_newLine y_MD_newLine) := ⟨tw_s 25 (q := (y_MD_newLine, 23)) (by decide +kernel) rfl, rfl⟩
theorem ks_26 : gw (.selects "PortBillsModel" y_MD_takeEvents y_MD_takeEvents) := ⟨tw_s 26 (q := (y_MD_takeEvents, 23)) (by decide +kernel) rfl, rfl⟩
theorem ks_27 : gw (.selects "PortBillsModel" y_MD_isLine y_MD_isLine) := ⟨tw_s 27 (q := (y_MD_isLine, 23)) (by decide +kernel) rfl, rfl⟩
theorem ks_28 : gw (.selects "PortBillsModel" y_MD_whole y_MD_whole) := ⟨tw_s 28 (q := (y_MD_whole, 23)) (by decide +kernel) rfl, rfl⟩
theorem ks_29 : gw (.selects "PortBillsModel" y_MD_left y_MD_left) := ⟨tw_s 29 (q := (y_MD_left, 23)) (by decide +kernel) rfl, rfl⟩
theorem ks_30 : gw (.selects "PortBillsModel" y_MD_isOut y_MD_isOut) := ⟨tw_s 30 (q := (y_MD_isOut, 23)) (by decide +kernel) rfl, rfl⟩
theorem nd_PB_init : y_PB_init.cls ≠ "java/lang/invoke/MethodHandle" ∧ y_PB_init.cls ≠ "java/lang/invoke/VarHandle" ∧ (parseMethodDescriptor y_PB_init.desc).map (fun d => d.parameters.length) = some 0 := ⟨by decide +kernel, by decide +kernel, by decide +kernel⟩
theorem nd_PB_sign : y_PB_sign.cls ≠ "java/lang/invoke/MethodHandle" ∧ y_PB_sign.cls ≠ "java/lang/invoke/VarHandle" ∧ (parseMethodDescriptor y_PB_sign.desc).map (fun d => d.parameters.length) = some 1 := ⟨by decide +kernel, by decide +kernel, by decide +kernel⟩
theorem nd_PB_read : y_PB_read.cls ≠ "java/lang/invoke/MethodHandle" ∧ y_PB_read.cls ≠ "java/lang/invoke/VarHandle" ∧ (parseMethodDescriptor y_PB_read.desc).map (fun d => d.parameters.length) = some 0 := ⟨by decide +kernel, by decide +kernel, by decide +kernel⟩
theorem nd_PB_tariff : y_PB_tariff.cls ≠ "java/lang/invoke/MethodHandle" ∧ y_PB_tariff.cls ≠ "java/lang/invoke/VarHandle" ∧ (parseMethodDescriptor y_PB_tariff.desc).map (fun d => d.parameters.length) = some 2 := ⟨by decide +kernel, by decide +kernel, by decide +kernel⟩
theorem nd_PB_event : y_PB_event.cls ≠ "java/lang/invoke/MethodHandle" ∧ y_PB_event.cls ≠ "java/lang/invoke/VarHandle" ∧ (parseMethodDescriptor y_PB_event.desc).map (fun d => d.parameters.length) = some 3 := ⟨by decide +kernel, by decide +kernel, by decide +kernel⟩
theorem nd_PB_discount : y_PB_discount.cls ≠ "java/lang/invoke/MethodHandle" ∧ y_PB_discount.cls ≠ "java/lang/invoke/VarHandle" ∧ (parseMethodDescriptor y_PB_discount.desc).map (fun d => d.parameters.length) = some 4 := ⟨by decide +kernel, by decide +kernel, by decide +kernel⟩
theorem nd_PB_bill : y_PB_bill.cls ≠ "java/lang/invoke/MethodHandle" ∧ y_PB_bill.cls ≠ "java/lang/invoke/VarHandle" ∧ (parseMethodDescriptor y_PB_bill.desc).map (fun d => d.parameters.length) = some 1 := ⟨by decide +kernel, by decide +kernel, by decide +kernel⟩
theorem nd_PB_correct : y_PB_correct.cls ≠ "java/lang/invoke/MethodHandle" ∧ y_PB_correct.cls ≠ "java/lang/invoke/VarHandle" ∧ (parseMethodDescriptor y_PB_correct.desc).map (fun d => d.parameters.length) = some 2 := ⟨by decide +kernel, by decide +kernel, by decide +kernel⟩
theorem nd_PB_dispute : y_PB_dispute.cls ≠ "java/lang/invoke/MethodHandle" ∧ y_PB_dispute.cls ≠ "java/lang/invoke/VarHandle" ∧ (parseMethodDescriptor y_PB_dispute.desc).map (fun d => d.parameters.length) = some 2 := ⟨by decide +kernel, by decide +kernel, by decide +kernel⟩
theorem nd_PB_pay : y_PB_pay.cls ≠ "java/lang/invoke/MethodHandle" ∧ y_PB_pay.cls ≠ "java/lang/invoke/VarHandle" ∧ (parseMethodDescriptor y_PB_pay.desc).map (fun d => d.parameters.length) = some 2 := ⟨by decide +kernel, by decide +kernel, by decide +kernel⟩
theorem nd_PB_unpaid : y_PB_unpaid.cls ≠ "java/lang/invoke/MethodHandle" ∧ y_PB_unpaid.cls ≠ "java/lang/invoke/VarHandle" ∧ (parseMethodDescriptor y_PB_unpaid.desc).map (fun d => d.parameters.length) = some 1 := ⟨by decide +kernel, by decide +kernel, by decide +kernel⟩
theorem nd_PB_share : y_PB_share.cls ≠ "java/lang/invoke/MethodHandle" ∧ y_PB_share.cls ≠ "java/lang/invoke/VarHandle" ∧ (parseMethodDescriptor y_PB_share.desc).map (fun d => d.parameters.length) = some 3 := ⟨by decide +kernel, by decide +kernel, by decide +kernel⟩
theorem nd_PB_line : y_PB_line.cls ≠ "java/lang/invoke/MethodHandle" ∧ y_PB_line.cls ≠ "java/lang/invoke/VarHandle" ∧ (parseMethodDescriptor y_PB_line.desc).map (fun d => d.parameters.length) = some 2 := ⟨by decide +kernel, by decide +kernel, by decide +kernel⟩
theorem nd_PB_count : y_PB_count.cls ≠ "java/lang/invoke/MethodHandle" ∧ y_PB_count.cls ≠ "java/lang/invoke/VarHandle" ∧ (parseMethodDescriptor y_PB_count.desc).map (fun d => d.parameters.length) = some 1 := ⟨by decide +kernel, by decide +kernel, by decide +kernel⟩
theorem nd_PB_isCall : y_PB_isCall.cls ≠ "java/lang/invoke/MethodHandle" ∧ y_PB_isCall.cls ≠ "java/lang/invoke/VarHandle" ∧ (parseMethodDescriptor y_PB_isCall.desc).map (fun d => d.parameters.length) = some 1 := ⟨by decide +kernel, by decide +kernel, by decide +kernel⟩
theorem nd_PB_isKind : y_PB_isKind.cls ≠ "java/lang/invoke/MethodHandle" ∧ y_PB_isKind.cls ≠ "java/lang/invoke/VarHandle" ∧ (parseMethodDescriptor y_PB_isKind.desc).map (fun d => d.parameters.length) = some 1 := ⟨by decide +kernel, by decide +kernel, by decide +kernel⟩
theorem nd_PB_isKey : y_PB_isKey.cls ≠ "java/lang/invoke/MethodHandle" ∧ y_PB_isKey.cls ≠ "java/lang/invoke/VarHandle" ∧ (parseMethodDescriptor y_PB_isKey.desc).map (fun d => d.parameters.length) = some 1 := ⟨by decide +kernel, by decide +kernel, by decide +kernel⟩
theorem nd_PB_isLine : y_PB_isLine.cls ≠ "java/lang/invoke/MethodHandle" ∧ y_PB_isLine.cls ≠ "java/lang/invoke/VarHandle" ∧ (parseMethodDescriptor y_PB_isLine.desc).map (fun d => d.parameters.length) = some 1 := ⟨by decide +kernel, by decide +kernel, by decide +kernel⟩
theorem nd_PB_hasTariff : y_PB_hasTariff.cls ≠ "java/lang/invoke/MethodHandle" ∧ y_PB_hasTariff.cls ≠ "java/lang/invoke/VarHandle" ∧ (parseMethodDescriptor y_PB_hasTariff.desc).map (fun d => d.parameters.length) = some 1 := ⟨by decide +kernel, by decide +kernel, by decide +kernel⟩
theorem nd_PB_takeOverTariffs : y_PB_takeOverTariffs.cls ≠ "java/lang/invoke/MethodHandle" ∧ y_PB_takeOverTariffs.cls ≠ "java/lang/invoke/VarHandle" ∧ (parseMethodDescriptor y_PB_takeOverTariffs.desc).map (fun d => d.parameters.length) = some 0 := ⟨by decide +kernel, by decide +kernel, by decide +kernel⟩
theorem nd_PB_kindsThatWait : y_PB_kindsThatWait.cls ≠ "java/lang/invoke/MethodHandle" ∧ y_PB_kindsThatWait.cls ≠ "java/lang/invoke/VarHandle" ∧ (parseMethodDescriptor y_PB_kindsThatWait.desc).map (fun d => d.parameters.length) = some 1 := ⟨by decide +kernel, by decide +kernel, by decide +kernel⟩
theorem nd_PB_forgetEvents : y_PB_forgetEvents.cls ≠ "java/lang/invoke/MethodHandle" ∧ y_PB_forgetEvents.cls ≠ "java/lang/invoke/VarHandle" ∧ (parseMethodDescriptor y_PB_forgetEvents.desc).map (fun d => d.parameters.length) = some 1 := ⟨by decide +kernel, by decide +kernel, by decide +kernel⟩
theorem nd_PB_billedLine : y_PB_billedLine.cls ≠ "java/lang/invoke/MethodHandle" ∧ y_PB_billedLine.cls ≠ "java/lang/invoke/VarHandle" ∧ (parseMethodDescriptor y_PB_billedLine.desc).map (fun d => d.parameters.length) = some 2 := ⟨by decide +kernel, by decide +kernel, by decide +kernel⟩
theorem nd_PB_centsFor : y_PB_centsFor.cls ≠ "java/lang/invoke/MethodHandle" ∧ y_PB_centsFor.cls ≠ "java/lang/invoke/VarHandle" ∧ (parseMethodDescriptor y_PB_centsFor.desc).map (fun d => d.parameters.length) = some 3 := ⟨by decide +kernel, by decide +kernel, by decide +kernel⟩
theorem nd_PB_owedNow : y_PB_owedNow.cls ≠ "java/lang/invoke/MethodHandle" ∧ y_PB_owedNow.cls ≠ "java/lang/invoke/VarHandle" ∧ (parseMethodDescriptor y_PB_owedNow.desc).map (fun d => d.parameters.length) = some 1 := ⟨by decide +kernel, by decide +kernel, by decide +kernel⟩
theorem nd_PB_linesOf : y_PB_linesOf.cls ≠ "java/lang/invoke/MethodHandle" ∧ y_PB_linesOf.cls ≠ "java/lang/invoke/VarHandle" ∧ (parseMethodDescriptor y_PB_linesOf.desc).map (fun d => d.parameters.length) = some 1 := ⟨by decide +kernel, by decide +kernel, by decide +kernel⟩
theorem nd_PB_begunUnits : y_PB_begunUnits.cls ≠ "java/lang/invoke/MethodHandle" ∧ y_PB_begunUnits.cls ≠ "java/lang/invoke/VarHandle" ∧ (parseMethodDescriptor y_PB_begunUnits.desc).map (fun d => d.parameters.length) = some 2 := ⟨by decide +kernel, by decide +kernel, by decide +kernel⟩
theorem nd_PB_roundedHalfUp : y_PB_roundedHalfUp.cls ≠ "java/lang/invoke/MethodHandle" ∧ y_PB_roundedHalfUp.cls ≠ "java/lang/invoke/VarHandle" ∧ (parseMethodDescriptor y_PB_roundedHalfUp.desc).map (fun d => d.parameters.length) = some 2 := ⟨by decide +kernel, by decide +kernel, by decide +kernel⟩
theorem nd_PB_quotient : y_PB_quotient.cls ≠ "java/lang/invoke/MethodHandle" ∧ y_PB_quotient.cls ≠ "java/lang/invoke/VarHandle" ∧ (parseMethodDescriptor y_PB_quotient.desc).map (fun d => d.parameters.length) = some 2 := ⟨by decide +kernel, by decide +kernel, by decide +kernel⟩
theorem nd_MD_init : y_MD_init.cls ≠ "java/lang/invoke/MethodHandle" ∧ y_MD_init.cls ≠ "java/lang/invoke/VarHandle" ∧ (parseMethodDescriptor y_MD_init.desc).map (fun d => d.parameters.length) = some 0 := ⟨by decide +kernel, by decide +kernel, by decide +kernel⟩
theorem nd_MD_thrown : y_MD_thrown.cls ≠ "java/lang/invoke/MethodHandle" ∧ y_MD_thrown.cls ≠ "java/lang/invoke/VarHandle" ∧ (parseMethodDescriptor y_MD_thrown.desc).map (fun d => d.parameters.length) = some 0 := ⟨by decide +kernel, by decide +kernel, by decide +kernel⟩
theorem nd_MD_fails : y_MD_fails.cls ≠ "java/lang/invoke/MethodHandle" ∧ y_MD_fails.cls ≠ "java/lang/invoke/VarHandle" ∧ (parseMethodDescriptor y_MD_fails.desc).map (fun d => d.parameters.length) = some 1 := ⟨by decide +kernel, by decide +kernel, by decide +kernel⟩
theorem nd_MD_in : y_MD_in.cls ≠ "java/lang/invoke/MethodHandle" ∧ y_MD_in.cls ≠ "java/lang/invoke/VarHandle" ∧ (parseMethodDescriptor y_MD_in.desc).map (fun d => d.parameters.length) = some 3 := ⟨by decide +kernel, by decide +kernel, by decide +kernel⟩
theorem nd_MD_isCall : y_MD_isCall.cls ≠ "java/lang/invoke/MethodHandle" ∧ y_MD_isCall.cls ≠ "java/lang/invoke/VarHandle" ∧ (parseMethodDescriptor y_MD_isCall.desc).map (fun d => d.parameters.length) = some 1 := ⟨by decide +kernel, by decide +kernel, by decide +kernel⟩
theorem nd_MD_isKind : y_MD_isKind.cls ≠ "java/lang/invoke/MethodHandle" ∧ y_MD_isKind.cls ≠ "java/lang/invoke/VarHandle" ∧ (parseMethodDescriptor y_MD_isKind.desc).map (fun d => d.parameters.length) = some 1 := ⟨by decide +kernel, by decide +kernel, by decide +kernel⟩
theorem nd_MD_unitOf : y_MD_unitOf.cls ≠ "java/lang/invoke/MethodHandle" ∧ y_MD_unitOf.cls ≠ "java/lang/invoke/VarHandle" ∧ (parseMethodDescriptor y_MD_unitOf.desc).map (fun d => d.parameters.length) = some 1 := ⟨by decide +kernel, by decide +kernel, by decide +kernel⟩
theorem nd_MD_sign : y_MD_sign.cls ≠ "java/lang/invoke/MethodHandle" ∧ y_MD_sign.cls ≠ "java/lang/invoke/VarHandle" ∧ (parseMethodDescriptor y_MD_sign.desc).map (fun d => d.parameters.length) = some 1 := ⟨by decide +kernel, by decide +kernel, by decide +kernel⟩
theorem nd_MD_begins : y_MD_begins.cls ≠ "java/lang/invoke/MethodHandle" ∧ y_MD_begins.cls ≠ "java/lang/invoke/VarHandle" ∧ (parseMethodDescriptor y_MD_begins.desc).map (fun d => d.parameters.length) = some 1 := ⟨by decide +kernel, by decide +kernel, by decide +kernel⟩
theorem nd_MD_read : y_MD_read.cls ≠ "java/lang/invoke/MethodHandle" ∧ y_MD_read.cls ≠ "java/lang/invoke/VarHandle" ∧ (parseMethodDescriptor y_MD_read.desc).map (fun d => d.parameters.length) = some 0 := ⟨by decide +kernel, by decide +kernel, by decide +kernel⟩
theorem nd_MD_tariff : y_MD_tariff.cls ≠ "java/lang/invoke/MethodHandle" ∧ y_MD_tariff.cls ≠ "java/lang/invoke/VarHandle" ∧ (parseMethodDescriptor y_MD_tariff.desc).map (fun d => d.parameters.length) = some 2 := ⟨by decide +kernel, by decide +kernel, by decide +kernel⟩
theorem nd_MD_event : y_MD_event.cls ≠ "java/lang/invoke/MethodHandle" ∧ y_MD_event.cls ≠ "java/lang/invoke/VarHandle" ∧ (parseMethodDescriptor y_MD_event.desc).map (fun d => d.parameters.length) = some 3 := ⟨by decide +kernel, by decide +kernel, by decide +kernel⟩
theorem nd_MD_discount : y_MD_discount.cls ≠ "java/lang/invoke/MethodHandle" ∧ y_MD_discount.cls ≠ "java/lang/invoke/VarHandle" ∧ (parseMethodDescriptor y_MD_discount.desc).map (fun d => d.parameters.length) = some 4 := ⟨by decide +kernel, by decide +kernel, by decide +kernel⟩
theorem nd_MD_unitsOf : y_MD_unitsOf.cls ≠ "java/lang/invoke/MethodHandle" ∧ y_MD_unitsOf.cls ≠ "java/lang/invoke/VarHandle" ∧ (parseMethodDescriptor y_MD_unitsOf.desc).map (fun d => d.parameters.length) = some 2 := ⟨by decide +kernel, by decide +kernel, by decide +kernel⟩
theorem nd_MD_newLine : y_MD_newLine.cls ≠ "java/lang/invoke/MethodHandle" ∧ y_MD_newLine.cls ≠ "java/lang/invoke/VarHandle" ∧ (parseMethodDescriptor y_MD_newLine.desc).map (fun d => d.parameters.length) = some 6 := ⟨by decide +kernel, by decide +kernel, by decide +kernel⟩
theorem nd_MD_billKind : y_MD_billKind.cls ≠ "java/lang/invoke/MethodHandle" ∧ y_MD_billKind.cls ≠ "java/lang/invoke/VarHandle" ∧ (parseMethodDescriptor y_MD_billKind.desc).map (fun d => d.parameters.length) = some 2 := ⟨by decide +kernel, by decide +kernel, by decide +kernel⟩
theorem nd_MD_takeEvents : y_MD_takeEvents.cls ≠ "java/lang/invoke/MethodHandle" ∧ y_MD_takeEvents.cls ≠ "java/lang/invoke/VarHandle" ∧ (parseMethodDescriptor y_MD_takeEvents.desc).map (fun d => d.parameters.length) = some 1 := ⟨by decide +kernel, by decide +kernel, by decide +kernel⟩
theorem nd_MD_bill : y_MD_bill.cls ≠ "java/lang/invoke/MethodHandle" ∧ y_MD_bill.cls ≠ "java/lang/invoke/VarHandle" ∧ (parseMethodDescriptor y_MD_bill.desc).map (fun d => d.parameters.length) = some 1 := ⟨by decide +kernel, by decide +kernel, by decide +kernel⟩
theorem nd_MD_isLine : y_MD_isLine.cls ≠ "java/lang/invoke/MethodHandle" ∧ y_MD_isLine.cls ≠ "java/lang/invoke/VarHandle" ∧ (parseMethodDescriptor y_MD_isLine.desc).map (fun d => d.parameters.length) = some 1 := ⟨by decide +kernel, by decide +kernel, by decide +kernel⟩
theorem nd_MD_whole : y_MD_whole.cls ≠ "java/lang/invoke/MethodHandle" ∧ y_MD_whole.cls ≠ "java/lang/invoke/VarHandle" ∧ (parseMethodDescriptor y_MD_whole.desc).map (fun d => d.parameters.length) = some 1 := ⟨by decide +kernel, by decide +kernel, by decide +kernel⟩
theorem nd_MD_correct : y_MD_correct.cls ≠ "java/lang/invoke/MethodHandle" ∧ y_MD_correct.cls ≠ "java/lang/invoke/VarHandle" ∧ (parseMethodDescriptor y_MD_correct.desc).map (fun d => d.parameters.length) = some 2 := ⟨by decide +kernel, by decide +kernel, by decide +kernel⟩
theorem nd_MD_dispute : y_MD_dispute.cls ≠ "java/lang/invoke/MethodHandle" ∧ y_MD_dispute.cls ≠ "java/lang/invoke/VarHandle" ∧ (parseMethodDescriptor y_MD_dispute.desc).map (fun d => d.parameters.length) = some 2 := ⟨by decide +kernel, by decide +kernel, by decide +kernel⟩
theorem nd_MD_isOut : y_MD_isOut.cls ≠ "java/lang/invoke/MethodHandle" ∧ y_MD_isOut.cls ≠ "java/lang/invoke/VarHandle" ∧ (parseMethodDescriptor y_MD_isOut.desc).map (fun d => d.parameters.length) = some 1 := ⟨by decide +kernel, by decide +kernel, by decide +kernel⟩
theorem nd_MD_left : y_MD_left.cls ≠ "java/lang/invoke/MethodHandle" ∧ y_MD_left.cls ≠ "java/lang/invoke/VarHandle" ∧ (parseMethodDescriptor y_MD_left.desc).map (fun d => d.parameters.length) = some 1 := ⟨by decide +kernel, by decide +kernel, by decide +kernel⟩
theorem nd_MD_pay : y_MD_pay.cls ≠ "java/lang/invoke/MethodHandle" ∧ y_MD_pay.cls ≠ "java/lang/invoke/VarHandle" ∧ (parseMethodDescriptor y_MD_pay.desc).map (fun d => d.parameters.length) = some 2 := ⟨by decide +kernel, by decide +kernel, by decide +kernel⟩
theorem nd_MD_unpaid : y_MD_unpaid.cls ≠ "java/lang/invoke/MethodHandle" ∧ y_MD_unpaid.cls ≠ "java/lang/invoke/VarHandle" ∧ (parseMethodDescriptor y_MD_unpaid.desc).map (fun d => d.parameters.length) = some 1 := ⟨by decide +kernel, by decide +kernel, by decide +kernel⟩
theorem nd_MD_share : y_MD_share.cls ≠ "java/lang/invoke/MethodHandle" ∧ y_MD_share.cls ≠ "java/lang/invoke/VarHandle" ∧ (parseMethodDescriptor y_MD_share.desc).map (fun d => d.parameters.length) = some 3 := ⟨by decide +kernel, by decide +kernel, by decide +kernel⟩
theorem nd_MD_line : y_MD_line.cls ≠ "java/lang/invoke/MethodHandle" ∧ y_MD_line.cls ≠ "java/lang/invoke/VarHandle" ∧ (parseMethodDescriptor y_MD_line.desc).map (fun d => d.parameters.length) = some 2 := ⟨by decide +kernel, by decide +kernel, by decide +kernel⟩
theorem nd_MD_count : y_MD_count.cls ≠ "java/lang/invoke/MethodHandle" ∧ y_MD_count.cls ≠ "java/lang/invoke/VarHandle" ∧ (parseMethodDescriptor y_MD_count.desc).map (fun d => d.parameters.length) = some 1 := ⟨by decide +kernel, by decide +kernel, by decide +kernel⟩
theorem nd_LN_init : y_LN_init.cls ≠ "java/lang/invoke/MethodHandle" ∧ y_LN_init.cls ≠ "java/lang/invoke/VarHandle" ∧ (parseMethodDescriptor y_LN_init.desc).map (fun d => d.parameters.length) = some 7 := ⟨by decide +kernel, by decide +kernel, by decide +kernel⟩
theorem nd_LN_isCorrection : y_LN_isCorrection.cls ≠ "java/lang/invoke/MethodHandle" ∧ y_LN_isCorrection.cls ≠ "java/lang/invoke/VarHandle" ∧ (parseMethodDescriptor y_LN_isCorrection.desc).map (fun d => d.parameters.length) = some 0 := ⟨by decide +kernel, by decide +kernel, by decide +kernel⟩
theorem nd_LN_part : y_LN_part.cls ≠ "java/lang/invoke/MethodHandle" ∧ y_LN_part.cls ≠ "java/lang/invoke/VarHandle" ∧ (parseMethodDescriptor y_LN_part.desc).map (fun d => d.parameters.length) = some 1 := ⟨by decide +kernel, by decide +kernel, by decide +kernel⟩
theorem nd_TT_init : y_TT_init.cls ≠ "java/lang/invoke/MethodHandle" ∧ y_TT_init.cls ≠ "java/lang/invoke/VarHandle" ∧ (parseMethodDescriptor y_TT_init.desc).map (fun d => d.parameters.length) = some 0 := ⟨by decide +kernel, by decide +kernel, by decide +kernel⟩
theorem nd_TT_takes : y_TT_takes.cls ≠ "java/lang/invoke/MethodHandle" ∧ y_TT_takes.cls ≠ "java/lang/invoke/VarHandle" ∧ (parseMethodDescriptor y_TT_takes.desc).map (fun d => d.parameters.length) = some 1 := ⟨by decide +kernel, by decide +kernel, by decide +kernel⟩
theorem nd_TT_clear : y_TT_clear.cls ≠ "java/lang/invoke/MethodHandle" ∧ y_TT_clear.cls ≠ "java/lang/invoke/VarHandle" ∧ (parseMethodDescriptor y_TT_clear.desc).map (fun d => d.parameters.length) = some 0 := ⟨by decide +kernel, by decide +kernel, by decide +kernel⟩
theorem nd_TT_readRows : y_TT_readRows.cls ≠ "java/lang/invoke/MethodHandle" ∧ y_TT_readRows.cls ≠ "java/lang/invoke/VarHandle" ∧ (parseMethodDescriptor y_TT_readRows.desc).map (fun d => d.parameters.length) = some 0 := ⟨by decide +kernel, by decide +kernel, by decide +kernel⟩
theorem nd_TT_readRow : y_TT_readRow.cls ≠ "java/lang/invoke/MethodHandle" ∧ y_TT_readRow.cls ≠ "java/lang/invoke/VarHandle" ∧ (parseMethodDescriptor y_TT_readRow.desc).map (fun d => d.parameters.length) = some 0 := ⟨by decide +kernel, by decide +kernel, by decide +kernel⟩
theorem nd_TT_readNumber : y_TT_readNumber.cls ≠ "java/lang/invoke/MethodHandle" ∧ y_TT_readNumber.cls ≠ "java/lang/invoke/VarHandle" ∧ (parseMethodDescriptor y_TT_readNumber.desc).map (fun d => d.parameters.length) = some 3 := ⟨by decide +kernel, by decide +kernel, by decide +kernel⟩
theorem nd_TT_passes : y_TT_passes.cls ≠ "java/lang/invoke/MethodHandle" ∧ y_TT_passes.cls ≠ "java/lang/invoke/VarHandle" ∧ (parseMethodDescriptor y_TT_passes.desc).map (fun d => d.parameters.length) = some 1 := ⟨by decide +kernel, by decide +kernel, by decide +kernel⟩
theorem nd_TT_next : y_TT_next.cls ≠ "java/lang/invoke/MethodHandle" ∧ y_TT_next.cls ≠ "java/lang/invoke/VarHandle" ∧ (parseMethodDescriptor y_TT_next.desc).map (fun d => d.parameters.length) = some 0 := ⟨by decide +kernel, by decide +kernel, by decide +kernel⟩
theorem nd_TT_isDigit : y_TT_isDigit.cls ≠ "java/lang/invoke/MethodHandle" ∧ y_TT_isDigit.cls ≠ "java/lang/invoke/VarHandle" ∧ (parseMethodDescriptor y_TT_isDigit.desc).map (fun d => d.parameters.length) = some 1 := ⟨by decide +kernel, by decide +kernel, by decide +kernel⟩
theorem nd_LW_tariff : y_LW_tariff.cls ≠ "java/lang/invoke/MethodHandle" ∧ y_LW_tariff.cls ≠ "java/lang/invoke/VarHandle" ∧ (parseMethodDescriptor y_LW_tariff.desc).map (fun d => d.parameters.length) = some 4 := ⟨by decide +kernel, by decide +kernel, by decide +kernel⟩
theorem nd_LW_event : y_LW_event.cls ≠ "java/lang/invoke/MethodHandle" ∧ y_LW_event.cls ≠ "java/lang/invoke/VarHandle" ∧ (parseMethodDescriptor y_LW_event.desc).map (fun d => d.parameters.length) = some 5 := ⟨by decide +kernel, by decide +kernel, by decide +kernel⟩
theorem nd_LW_bill : y_LW_bill.cls ≠ "java/lang/invoke/MethodHandle" ∧ y_LW_bill.cls ≠ "java/lang/invoke/VarHandle" ∧ (parseMethodDescriptor y_LW_bill.desc).map (fun d => d.parameters.length) = some 3 := ⟨by decide +kernel, by decide +kernel, by decide +kernel⟩
theorem nd_LW_correct : y_LW_correct.cls ≠ "java/lang/invoke/MethodHandle" ∧ y_LW_correct.cls ≠ "java/lang/invoke/VarHandle" ∧ (parseMethodDescriptor y_LW_correct.desc).map (fun d => d.parameters.length) = some 4 := ⟨by decide +kernel, by decide +kernel, by decide +kernel⟩
theorem nd_LW_dispute : y_LW_dispute.cls ≠ "java/lang/invoke/MethodHandle" ∧ y_LW_dispute.cls ≠ "java/lang/invoke/VarHandle" ∧ (parseMethodDescriptor y_LW_dispute.desc).map (fun d => d.parameters.length) = some 4 := ⟨by decide +kernel, by decide +kernel, by decide +kernel⟩
theorem nd_LW_pay : y_LW_pay.cls ≠ "java/lang/invoke/MethodHandle" ∧ y_LW_pay.cls ≠ "java/lang/invoke/VarHandle" ∧ (parseMethodDescriptor y_LW_pay.desc).map (fun d => d.parameters.length) = some 4 := ⟨by decide +kernel, by decide +kernel, by decide +kernel⟩
theorem nd_LW_unpaid : y_LW_unpaid.cls ≠ "java/lang/invoke/MethodHandle" ∧ y_LW_unpaid.cls ≠ "java/lang/invoke/VarHandle" ∧ (parseMethodDescriptor y_LW_unpaid.desc).map (fun d => d.parameters.length) = some 3 := ⟨by decide +kernel, by decide +kernel, by decide +kernel⟩
theorem nd_LW_share : y_LW_share.cls ≠ "java/lang/invoke/MethodHandle" ∧ y_LW_share.cls ≠ "java/lang/invoke/VarHandle" ∧ (parseMethodDescriptor y_LW_share.desc).map (fun d => d.parameters.length) = some 5 := ⟨by decide +kernel, by decide +kernel, by decide +kernel⟩
theorem nd_LW_line : y_LW_line.cls ≠ "java/lang/invoke/MethodHandle" ∧ y_LW_line.cls ≠ "java/lang/invoke/VarHandle" ∧ (parseMethodDescriptor y_LW_line.desc).map (fun d => d.parameters.length) = some 4 := ⟨by decide +kernel, by decide +kernel, by decide +kernel⟩
theorem nd_LW_law : y_LW_law.cls ≠ "java/lang/invoke/MethodHandle" ∧ y_LW_law.cls ≠ "java/lang/invoke/VarHandle" ∧ (parseMethodDescriptor y_LW_law.desc).map (fun d => d.parameters.length) = some 1 := ⟨by decide +kernel, by decide +kernel, by decide +kernel⟩
theorem nd_AC_init : y_AC_init.cls ≠ "java/lang/invoke/MethodHandle" ∧ y_AC_init.cls ≠ "java/lang/invoke/VarHandle" ∧ (parseMethodDescriptor y_AC_init.desc).map (fun d => d.parameters.length) = some 0 := ⟨by decide +kernel, by decide +kernel, by decide +kernel⟩
theorem nd_AB_init : y_AB_init.cls ≠ "java/lang/invoke/MethodHandle" ∧ y_AB_init.cls ≠ "java/lang/invoke/VarHandle" ∧ (parseMethodDescriptor y_AB_init.desc).map (fun d => d.parameters.length) = some 0 := ⟨by decide +kernel, by decide +kernel, by decide +kernel⟩
theorem nd_AL_init : y_AL_init.cls ≠ "java/lang/invoke/MethodHandle" ∧ y_AL_init.cls ≠ "java/lang/invoke/VarHandle" ∧ (parseMethodDescriptor y_AL_init.desc).map (fun d => d.parameters.length) = some 0 := ⟨by decide +kernel, by decide +kernel, by decide +kernel⟩
theorem nd_AL_add : y_AL_add.cls ≠ "java/lang/invoke/MethodHandle" ∧ y_AL_add.cls ≠ "java/lang/invoke/VarHandle" ∧ (parseMethodDescriptor y_AL_add.desc).map (fun d => d.parameters.length) = some 1 := ⟨by decide +kernel, by decide +kernel, by decide +kernel⟩
theorem nd_AL_add2 : y_AL_add2.cls ≠ "java/lang/invoke/MethodHandle" ∧ y_AL_add2.cls ≠ "java/lang/invoke/VarHandle" ∧ (parseMethodDescriptor y_AL_add2.desc).map (fun d => d.parameters.length) = some 3 := ⟨by decide +kernel, by decide +kernel, by decide +kernel⟩
theorem nd_AL_elementData : y_AL_elementData.cls ≠ "java/lang/invoke/MethodHandle" ∧ y_AL_elementData.cls ≠ "java/lang/invoke/VarHandle" ∧ (parseMethodDescriptor y_AL_elementData.desc).map (fun d => d.parameters.length) = some 1 := ⟨by decide +kernel, by decide +kernel, by decide +kernel⟩
theorem nd_AL_get : y_AL_get.cls ≠ "java/lang/invoke/MethodHandle" ∧ y_AL_get.cls ≠ "java/lang/invoke/VarHandle" ∧ (parseMethodDescriptor y_AL_get.desc).map (fun d => d.parameters.length) = some 1 := ⟨by decide +kernel, by decide +kernel, by decide +kernel⟩
theorem nd_AL_grow : y_AL_grow.cls ≠ "java/lang/invoke/MethodHandle" ∧ y_AL_grow.cls ≠ "java/lang/invoke/VarHandle" ∧ (parseMethodDescriptor y_AL_grow.desc).map (fun d => d.parameters.length) = some 0 := ⟨by decide +kernel, by decide +kernel, by decide +kernel⟩
theorem nd_AL_grow2 : y_AL_grow2.cls ≠ "java/lang/invoke/MethodHandle" ∧ y_AL_grow2.cls ≠ "java/lang/invoke/VarHandle" ∧ (parseMethodDescriptor y_AL_grow2.desc).map (fun d => d.parameters.length) = some 1 := ⟨by decide +kernel, by decide +kernel, by decide +kernel⟩
theorem nd_AL_size : y_AL_size.cls ≠ "java/lang/invoke/MethodHandle" ∧ y_AL_size.cls ≠ "java/lang/invoke/VarHandle" ∧ (parseMethodDescriptor y_AL_size.desc).map (fun d => d.parameters.length) = some 0 := ⟨by decide +kernel, by decide +kernel, by decide +kernel⟩
theorem nd_AR_copyOf : y_AR_copyOf.cls ≠ "java/lang/invoke/MethodHandle" ∧ y_AR_copyOf.cls ≠ "java/lang/invoke/VarHandle" ∧ (parseMethodDescriptor y_AR_copyOf.desc).map (fun d => d.parameters.length) = some 2 := ⟨by decide +kernel, by decide +kernel, by decide +kernel⟩
theorem nd_AR_copyOf2 : y_AR_copyOf2.cls ≠ "java/lang/invoke/MethodHandle" ∧ y_AR_copyOf2.cls ≠ "java/lang/invoke/VarHandle" ∧ (parseMethodDescriptor y_AR_copyOf2.desc).map (fun d => d.parameters.length) = some 3 := ⟨by decide +kernel, by decide +kernel, by decide +kernel⟩
theorem nd_AR_fill : y_AR_fill.cls ≠ "java/lang/invoke/MethodHandle" ∧ y_AR_fill.cls ≠ "java/lang/invoke/VarHandle" ∧ (parseMethodDescriptor y_AR_fill.desc).map (fun d => d.parameters.length) = some 2 := ⟨by decide +kernel, by decide +kernel, by decide +kernel⟩
theorem nd_OB_checkIndex : y_OB_checkIndex.cls ≠ "java/lang/invoke/MethodHandle" ∧ y_OB_checkIndex.cls ≠ "java/lang/invoke/VarHandle" ∧ (parseMethodDescriptor y_OB_checkIndex.desc).map (fun d => d.parameters.length) = some 2 := ⟨by decide +kernel, by decide +kernel, by decide +kernel⟩
theorem nd_AS_hugeLength : y_AS_hugeLength.cls ≠ "java/lang/invoke/MethodHandle" ∧ y_AS_hugeLength.cls ≠ "java/lang/invoke/VarHandle" ∧ (parseMethodDescriptor y_AS_hugeLength.desc).map (fun d => d.parameters.length) = some 2 := ⟨by decide +kernel, by decide +kernel, by decide +kernel⟩
theorem nd_AS_newLength : y_AS_newLength.cls ≠ "java/lang/invoke/MethodHandle" ∧ y_AS_newLength.cls ≠ "java/lang/invoke/VarHandle" ∧ (parseMethodDescriptor y_AS_newLength.desc).map (fun d => d.parameters.length) = some 3 := ⟨by decide +kernel, by decide +kernel, by decide +kernel⟩
theorem nd_PC_checkIndex : y_PC_checkIndex.cls ≠ "java/lang/invoke/MethodHandle" ∧ y_PC_checkIndex.cls ≠ "java/lang/invoke/VarHandle" ∧ (parseMethodDescriptor y_PC_checkIndex.desc).map (fun d => d.parameters.length) = some 3 := ⟨by decide +kernel, by decide +kernel, by decide +kernel⟩
theorem fl0_PB : ∀ w ∈ u_ws R_PB F_PB 11, gw w := by
  have h : (u_ws R_PB F_PB 11).all (fun w => decide (w ∈ lw_tbl) && goodWord w) = true := by decide +kernel
  intro w hw
  have := List.all_eq_true.mp h w hw
  simp only [Bool.and_eq_true, decide_eq_true_eq] at this
  exact this
theorem fl_PB {args : Array Value} {s : State} (hg : ∀ w, gw w → w.before args s = true) : ∀ w ∈ u_ws R_PB F_PB 11, w.before args s = true := fun w hw => hg w (fl0_PB w hw)
theorem fl0_TT : ∀ w ∈ u_ws R_TT F_TT 5, gw w := by
  have h : (u_ws R_TT F_TT 5).all (fun w => decide (w ∈ lw_tbl) && goodWord w) = true := by decide +kernel
  intro w hw
  have := List.all_eq_true.mp h w hw
  simp only [Bool.and_eq_true, decide_eq_true_eq] at this
  exact this
theorem fl_TT {args : Array Value} {s : State} (hg : ∀ w, gw w → w.before args s = true) : ∀ w ∈ u_ws R_TT F_TT 5, w.before args s = true := fun w hw => hg w (fl0_TT w hw)
theorem fl0_LN : ∀ w ∈ u_ws R_LN F_LN 9, gw w := by
  have h : (u_ws R_LN F_LN 9).all (fun w => decide (w ∈ lw_tbl) && goodWord w) = true := by decide +kernel
  intro w hw
  have := List.all_eq_true.mp h w hw
  simp only [Bool.and_eq_true, decide_eq_true_eq] at this
  exact this
theorem fl_LN {args : Array Value} {s : State} (hg : ∀ w, gw w → w.before args s = true) : ∀ w ∈ u_ws R_LN F_LN 9, w.before args s = true := fun w hw => hg w (fl0_LN w hw)
theorem fl0_AL : ∀ w ∈ u_ws R_AL F_AL 3, gw w := by
  have h : (u_ws R_AL F_AL 3).all (fun w => decide (w ∈ lw_tbl) && goodWord w) = true := by decide +kernel
  intro w hw
  have := List.all_eq_true.mp h w hw
  simp only [Bool.and_eq_true, decide_eq_true_eq] at this
  exact this
theorem fl_AL {args : Array Value} {s : State} (hg : ∀ w, gw w → w.before args s = true) : ∀ w ∈ u_ws R_AL F_AL 3, w.before args s = true := fun w hw => hg w (fl0_AL w hw)
theorem fl0_MD : ∀ w ∈ u_ws R_MD F_MD 23, gw w := by
  have h : (u_ws R_MD F_MD 23).all (fun w => decide (w ∈ lw_tbl) && goodWord w) = true := by decide +kernel
  intro w hw
  have := List.all_eq_true.mp h w hw
  simp only [Bool.and_eq_true, decide_eq_true_eq] at this
  exact this
theorem fl_MD {args : Array Value} {s : State} (hg : ∀ w, gw w → w.before args s = true) : ∀ w ∈ u_ws R_MD F_MD 23, w.before args s = true := fun w hw => hg w (fl0_MD w hw)
