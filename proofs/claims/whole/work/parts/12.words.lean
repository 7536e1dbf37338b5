theorem jc_1 {w : Cond} (h : w ∈ tables_1_1) : w ∈ lw_tbl := List.mem_append_right _ (show w ∈ tables_1 from List.mem_append_left _ h)
theorem jc_2 {w : Cond} (h : w ∈ tables_1_2) : w ∈ lw_tbl := List.mem_append_right _ (show w ∈ tables_1 from List.mem_append_right _ (List.mem_append_left _ h))
theorem jc_3 {w : Cond} (h : w ∈ tables_1_3) : w ∈ lw_tbl := List.mem_append_right _ (show w ∈ tables_1 from List.mem_append_right _ (List.mem_append_right _ (List.mem_append_left _ h)))
theorem jc_4 {w : Cond} (h : w ∈ tables_1_4) : w ∈ lw_tbl := List.mem_append_right _ (show w ∈ tables_1 from List.mem_append_right _ (List.mem_append_right _ (List.mem_append_right _ (List.mem_append_left _ h))))
theorem jc_5 {w : Cond} (h : w ∈ tables_1_5) : w ∈ lw_tbl := List.mem_append_right _ (show w ∈ tables_1 from List.mem_append_right _ (List.mem_append_right _ (List.mem_append_right _ (List.mem_append_right _ (List.mem_append_left _ h)))))
theorem jc_6 {w : Cond} (h : w ∈ tables_1_6) : w ∈ lw_tbl := List.mem_append_right _ (show w ∈ tables_1 from List.mem_append_right _ (List.mem_append_right _ (List.mem_append_right _ (List.mem_append_right _ (List.mem_append_right _ (List.mem_append_left _ h))))))
theorem jc_7 {w : Cond} (h : w ∈ tables_1_7) : w ∈ lw_tbl := List.mem_append_right _ (show w ∈ tables_1 from List.mem_append_right _ (List.mem_append_right _ (List.mem_append_right _ (List.mem_append_right _ (List.mem_append_right _ (List.mem_append_right _ (List.mem_append_left _ h)))))))
theorem jc_8 {w : Cond} (h : w ∈ tables_1_8) : w ∈ lw_tbl := List.mem_append_right _ (show w ∈ tables_1 from List.mem_append_right _ (List.mem_append_right _ (List.mem_append_right _ (List.mem_append_right _ (List.mem_append_right _ (List.mem_append_right _ (List.mem_append_right _ (h))))))))
set_option maxRecDepth 100000 in
theorem jt_0 : Cond.initialized RL ∈ jw_tbl := jw_inT (jc_1 (List.mem_of_getElem? (i := 0) rfl)) rfl
set_option maxRecDepth 100000 in
theorem jt_1 : Cond.initialized RX11 ∈ jw_tbl := jw_inT (jc_1 (List.mem_of_getElem? (i := 1) rfl)) rfl
set_option maxRecDepth 100000 in
theorem jt_2 : Cond.initialized RX6 ∈ jw_tbl := jw_inT (jc_1 (List.mem_of_getElem? (i := 2) rfl)) rfl
set_option maxRecDepth 100000 in
theorem jt_3 : Cond.initialized RJ7 ∈ jw_tbl := jw_inT (jc_1 (List.mem_of_getElem? (i := 3) rfl)) rfl
set_option maxRecDepth 100000 in
theorem jt_4 : Cond.initialized RX4 ∈ jw_tbl := jw_inT (jc_1 (List.mem_of_getElem? (i := 4) rfl)) rfl
set_option maxRecDepth 100000 in
theorem jt_5 : Cond.initialized RX7 ∈ jw_tbl := jw_inT (jc_1 (List.mem_of_getElem? (i := 5) rfl)) rfl
set_option maxRecDepth 100000 in
theorem jt_6 : Cond.initialized RX9 ∈ jw_tbl := jw_inT (jc_1 (List.mem_of_getElem? (i := 6) rfl)) rfl
set_option maxRecDepth 100000 in
theorem jt_7 : Cond.initialized RX10 ∈ jw_tbl := jw_inT (jc_1 (List.mem_of_getElem? (i := 7) rfl)) rfl
set_option maxRecDepth 100000 in
theorem jt_8 : Cond.initialized RX3 ∈ jw_tbl := jw_inT (jc_1 (List.mem_of_getElem? (i := 8) rfl)) rfl
set_option maxRecDepth 100000 in
theorem jt_9 : Cond.initialized RX1 ∈ jw_tbl := jw_inT (jc_1 (List.mem_of_getElem? (i := 9) rfl)) rfl
set_option maxRecDepth 100000 in
theorem jt_10 : Cond.initialized RX2 ∈ jw_tbl := jw_inT (jc_1 (List.mem_of_getElem? (i := 10) rfl)) rfl
set_option maxRecDepth 100000 in
theorem jt_11 : Cond.initialized RX8 ∈ jw_tbl := jw_inT (jc_1 (List.mem_of_getElem? (i := 11) rfl)) rfl
set_option maxRecDepth 100000 in
theorem jt_12 : Cond.initialized RX5 ∈ jw_tbl := jw_inT (jc_1 (List.mem_of_getElem? (i := 12) rfl)) rfl
set_option maxRecDepth 100000 in
theorem jt_13 : Cond.initialized RX0 ∈ jw_tbl := jw_inT (jc_1 (List.mem_of_getElem? (i := 13) rfl)) rfl
set_option maxRecDepth 100000 in
theorem jt_14 : Cond.initialized RX12 ∈ jw_tbl := jw_inT (jc_1 (List.mem_of_getElem? (i := 14) rfl)) rfl
set_option maxRecDepth 100000 in
theorem jt_15 : Cond.initialized RJ10 ∈ jw_tbl := jw_inT (jc_1 (List.mem_of_getElem? (i := 15) rfl)) rfl
set_option maxRecDepth 100000 in
theorem jt_16 : Cond.initialized RJ0 ∈ jw_tbl := jw_inT (jc_1 (List.mem_of_getElem? (i := 16) rfl)) rfl
set_option maxRecDepth 100000 in
theorem jt_17 : Cond.initialized RJ1 ∈ jw_tbl := jw_inT (jc_1 (List.mem_of_getElem? (i := 17) rfl)) rfl
set_option maxRecDepth 100000 in
theorem jt_18 : Cond.initialized RJ3 ∈ jw_tbl := jw_inT (jc_1 (List.mem_of_getElem? (i := 18) rfl)) rfl
set_option maxRecDepth 100000 in
theorem jt_19 : Cond.initialized RJ2 ∈ jw_tbl := jw_inT (jc_1 (List.mem_of_getElem? (i := 19) rfl)) rfl
set_option maxRecDepth 100000 in
theorem jt_20 : Cond.initialized RJ9 ∈ jw_tbl := jw_inT (jc_1 (List.mem_of_getElem? (i := 20) rfl)) rfl
set_option maxRecDepth 100000 in
theorem jt_21 : Cond.initialized RJ6 ∈ jw_tbl := jw_inT (jc_1 (List.mem_of_getElem? (i := 21) rfl)) rfl
set_option maxRecDepth 100000 in
theorem jt_22 : Cond.classLink RL 7 RX11 ∈ jw_tbl := jw_inT (jc_1 (List.mem_of_getElem? (i := 22) rfl)) rfl
set_option maxRecDepth 100000 in
theorem jt_23 : Cond.instantiable RX11 11 ∈ jw_tbl := jw_inT (jc_1 (List.mem_of_getElem? (i := 23) rfl)) rfl
set_option maxRecDepth 100000 in
theorem jt_24 : Cond.methodLink RL 9 yX11_init ∈ jw_tbl := jw_inT (jc_1 (List.mem_of_getElem? (i := 24) rfl)) rfl
set_option maxRecDepth 100000 in
theorem jt_25 : Cond.instanceMethod yX11_init ∈ jw_tbl := jw_inT (jc_1 (List.mem_of_getElem? (i := 25) rfl)) rfl
set_option maxRecDepth 100000 in
theorem jt_26 : Cond.code yX11_init prog_1_method_1_code 2 (Option.none : Option FieldType) ∈ jw_tbl := jw_inT (jc_1 (List.mem_of_getElem? (i := 26) rfl)) rfl
set_option maxRecDepth 100000 in
theorem jt_27 : Cond.methodLink RX11 3 Lib.objectInit ∈ jw_tbl := jw_inT (jc_1 (List.mem_of_getElem? (i := 27) rfl)) rfl
set_option maxRecDepth 100000 in
theorem jt_28 : Cond.instanceMethod Lib.objectInit ∈ jw_tbl := jw_inT (jc_1 (List.mem_of_getElem? (i := 28) rfl)) rfl
set_option maxRecDepth 100000 in
theorem jt_29 : Cond.code Lib.objectInit object_method_1_code 1 (Option.none : Option FieldType) ∈ jw_tbl := jw_inT (jc_1 (List.mem_of_getElem? (i := 29) rfl)) rfl
set_option maxRecDepth 100000 in
theorem jt_30 : Cond.classLink RX11 9 RX6 ∈ jw_tbl := jw_inT (jc_1 (List.mem_of_getElem? (i := 30) rfl)) rfl
set_option maxRecDepth 100000 in
theorem jt_31 : Cond.instantiable RX6 3 ∈ jw_tbl := jw_inT (jc_1 (List.mem_of_getElem? (i := 31) rfl)) rfl
set_option maxRecDepth 100000 in
theorem jt_32 : Cond.methodLink RX11 11 yX6_init ∈ jw_tbl := jw_inT (jc_1 (List.mem_of_getElem? (i := 32) rfl)) rfl
set_option maxRecDepth 100000 in
theorem jt_33 : Cond.instanceMethod yX6_init ∈ jw_tbl := jw_inT (jc_1 (List.mem_of_getElem? (i := 33) rfl)) rfl
set_option maxRecDepth 100000 in
theorem jt_34 : Cond.code yX6_init prog_8_method_1_code 1 (Option.none : Option FieldType) ∈ jw_tbl := jw_inT (jc_1 (List.mem_of_getElem? (i := 34) rfl)) rfl
set_option maxRecDepth 100000 in
theorem jt_35 : Cond.methodLink RX6 1 Lib.objectInit ∈ jw_tbl := jw_inT (jc_1 (List.mem_of_getElem? (i := 35) rfl)) rfl
set_option maxRecDepth 100000 in
theorem jt_36 : Cond.methodLink RX6 19 yJ7_fill_53178 ∈ jw_tbl := jw_inT (jc_1 (List.mem_of_getElem? (i := 36) rfl)) rfl
set_option maxRecDepth 100000 in
theorem jt_37 : Cond.static yJ7_fill_53178 ∈ jw_tbl := jw_inT (jc_1 (List.mem_of_getElem? (i := 37) rfl)) rfl
set_option maxRecDepth 100000 in
theorem jt_38 : Cond.code yJ7_fill_53178 prog_21_method_103_code 4 (Option.none : Option FieldType) ∈ jw_tbl := jw_inT (jc_1 (List.mem_of_getElem? (i := 38) rfl)) rfl
set_option maxRecDepth 100000 in
theorem jt_39 : Cond.fieldLink RX6 9 "StringsSheet$Rows" "lanes" "[I" ∈ jw_tbl := jw_inT (jc_1 (List.mem_of_getElem? (i := 39) rfl)) rfl
set_option maxRecDepth 100000 in
theorem jt_40 : Cond.fieldLink RX6 13 "StringsSheet$Rows" "sizes" "[I" ∈ jw_tbl := jw_inT (jc_1 (List.mem_of_getElem? (i := 40) rfl)) rfl
set_option maxRecDepth 100000 in
theorem jt_41 : Cond.fieldLink RX6 16 "StringsSheet$Rows" "items" "[I" ∈ jw_tbl := jw_inT (jc_1 (List.mem_of_getElem? (i := 41) rfl)) rfl
set_option maxRecDepth 100000 in
theorem jt_49 : Cond.arrayClass FieldType.int ∈ jw_tbl := jw_inT (jc_1 (List.mem_of_getElem? (i := 49) rfl)) rfl
set_option maxRecDepth 100000 in
theorem jt_50 : Cond.classLink RX11 16 RX4 ∈ jw_tbl := jw_inT (jc_1 (List.mem_of_getElem? (i := 50) rfl)) rfl
set_option maxRecDepth 100000 in
theorem jt_51 : Cond.instantiable RX4 8 ∈ jw_tbl := jw_inT (jc_1 (List.mem_of_getElem? (i := 51) rfl)) rfl
set_option maxRecDepth 100000 in
theorem jt_52 : Cond.methodLinkNest RX11 18 yX4_init "StringsSheet" ∈ jw_tbl := jw_inT (jc_1 (List.mem_of_getElem? (i := 52) rfl)) rfl
set_option maxRecDepth 100000 in
theorem jt_53 : Cond.instanceMethod yX4_init ∈ jw_tbl := jw_inT (jc_1 (List.mem_of_getElem? (i := 53) rfl)) rfl
set_option maxRecDepth 100000 in
theorem jt_54 : Cond.code yX4_init prog_6_method_1_code 1 (Option.none : Option FieldType) ∈ jw_tbl := jw_inT (jc_1 (List.mem_of_getElem? (i := 54) rfl)) rfl
set_option maxRecDepth 100000 in
theorem jt_55 : Cond.methodLink RX4 3 Lib.objectInit ∈ jw_tbl := jw_inT (jc_1 (List.mem_of_getElem? (i := 55) rfl)) rfl
set_option maxRecDepth 100000 in
theorem jt_56 : Cond.fieldLink RX4 11 "StringsSheet$Reader" "tape" "[B" ∈ jw_tbl := jw_inT (jc_1 (List.mem_of_getElem? (i := 56) rfl)) rfl
set_option maxRecDepth 100000 in
theorem jt_57 : Cond.fieldLink RX4 15 "StringsSheet$Reader" "length" "I" ∈ jw_tbl := jw_inT (jc_1 (List.mem_of_getElem? (i := 57) rfl)) rfl
set_option maxRecDepth 100000 in
theorem jt_58 : Cond.fieldLink RX4 26 "StringsSheet$Reader" "from" "I" ∈ jw_tbl := jw_inT (jc_1 (List.mem_of_getElem? (i := 58) rfl)) rfl
set_option maxRecDepth 100000 in
theorem jt_59 : Cond.fieldLink RX4 40 "StringsSheet$Reader" "to" "I" ∈ jw_tbl := jw_inT (jc_1 (List.mem_of_getElem? (i := 59) rfl)) rfl
set_option maxRecDepth 100000 in
theorem jt_60 : Cond.fieldLink RX4 46 "StringsSheet$Reader" "sort" "I" ∈ jw_tbl := jw_inT (jc_1 (List.mem_of_getElem? (i := 60) rfl)) rfl
set_option maxRecDepth 100000 in
theorem jt_61 : Cond.fieldLink RX4 83 "StringsSheet$Reader" "number" "I" ∈ jw_tbl := jw_inT (jc_1 (List.mem_of_getElem? (i := 61) rfl)) rfl
set_option maxRecDepth 100000 in
theorem jt_62 : Cond.fieldLink RX4 19 "StringsSheet$Reader" "told" "[I" ∈ jw_tbl := jw_inT (jc_1 (List.mem_of_getElem? (i := 62) rfl)) rfl
set_option maxRecDepth 100000 in
theorem jt_63 : Cond.fieldLink RX4 23 "StringsSheet$Reader" "counts" "[I" ∈ jw_tbl := jw_inT (jc_1 (List.mem_of_getElem? (i := 63) rfl)) rfl
set_option maxRecDepth 100000 in
theorem jt_81 : Cond.arrayClass FieldType.byte ∈ jw_tbl := jw_inT (jc_1 (List.mem_of_getElem? (i := 81) rfl)) rfl
set_option maxRecDepth 100000 in
theorem jt_82 : Cond.classLink RX11 23 RX7 ∈ jw_tbl := jw_inT (jc_1 (List.mem_of_getElem? (i := 82) rfl)) rfl
set_option maxRecDepth 100000 in
theorem jt_83 : Cond.instantiable RX7 6 ∈ jw_tbl := jw_inT (jc_1 (List.mem_of_getElem? (i := 83) rfl)) rfl
set_option maxRecDepth 100000 in
theorem jt_84 : Cond.methodLinkNest RX11 25 yX7_init "StringsSheet" ∈ jw_tbl := jw_inT (jc_1 (List.mem_of_getElem? (i := 84) rfl)) rfl
set_option maxRecDepth 100000 in
theorem jt_85 : Cond.instanceMethod yX7_init ∈ jw_tbl := jw_inT (jc_1 (List.mem_of_getElem? (i := 85) rfl)) rfl
set_option maxRecDepth 100000 in
theorem jt_86 : Cond.code yX7_init prog_9_method_1_code 1 (Option.none : Option FieldType) ∈ jw_tbl := jw_inT (jc_1 (List.mem_of_getElem? (i := 86) rfl)) rfl
set_option maxRecDepth 100000 in
theorem jt_87 : Cond.methodLink RX7 1 Lib.objectInit ∈ jw_tbl := jw_inT (jc_1 (List.mem_of_getElem? (i := 87) rfl)) rfl
set_option maxRecDepth 100000 in
theorem jt_88 : Cond.classLink RX7 13 RX9 ∈ jw_tbl := jw_inT (jc_1 (List.mem_of_getElem? (i := 88) rfl)) rfl
set_option maxRecDepth 100000 in
theorem jt_89 : Cond.instantiable RX9 11 ∈ jw_tbl := jw_inT (jc_1 (List.mem_of_getElem? (i := 89) rfl)) rfl
set_option maxRecDepth 100000 in
theorem jt_90 : Cond.methodLinkNest RX7 15 yX9_init "StringsSheet" ∈ jw_tbl := jw_inT (jc_1 (List.mem_of_getElem? (i := 90) rfl)) rfl
set_option maxRecDepth 100000 in
theorem jt_91 : Cond.instanceMethod yX9_init ∈ jw_tbl := jw_inT (jc_1 (List.mem_of_getElem? (i := 91) rfl)) rfl
set_option maxRecDepth 100000 in
theorem jt_92 : Cond.code yX9_init prog_11_method_1_code 1 (Option.none : Option FieldType) ∈ jw_tbl := jw_inT (jc_1 (List.mem_of_getElem? (i := 92) rfl)) rfl
set_option maxRecDepth 100000 in
theorem jt_93 : Cond.methodLink RX9 3 Lib.objectInit ∈ jw_tbl := jw_inT (jc_1 (List.mem_of_getElem? (i := 93) rfl)) rfl
set_option maxRecDepth 100000 in
theorem jt_94 : Cond.fieldLink RX9 30 "StringsSheet$Town" "corners" "I" ∈ jw_tbl := jw_inT (jc_1 (List.mem_of_getElem? (i := 94) rfl)) rfl
set_option maxRecDepth 100000 in
theorem jt_95 : Cond.fieldLinkNest RX8 79 "StringsSheet$Town" "corners" "I" "StringsSheet" ∈ jw_tbl := jw_inT (jc_1 (List.mem_of_getElem? (i := 95) rfl)) rfl
set_option maxRecDepth 100000 in
theorem jt_96 : Cond.fieldLinkNest RX11 141 "StringsSheet$Town" "corners" "I" "StringsSheet" ∈ jw_tbl := jw_inT (jc_1 (List.mem_of_getElem? (i := 96) rfl)) rfl
set_option maxRecDepth 100000 in
theorem jt_97 : Cond.fieldLinkNest RX5 103 "StringsSheet$Town" "corners" "I" "StringsSheet" ∈ jw_tbl := jw_inT (jc_1 (List.mem_of_getElem? (i := 97) rfl)) rfl
set_option maxRecDepth 100000 in
theorem jt_98 : Cond.fieldLink RX9 9 "StringsSheet$Town" "earns" "[I" ∈ jw_tbl := jw_inT (jc_1 (List.mem_of_getElem? (i := 98) rfl)) rfl
set_option maxRecDepth 100000 in
theorem jt_99 : Cond.fieldLinkNest RX0 41 "StringsSheet$Town" "earns" "[I" "StringsSheet" ∈ jw_tbl := jw_inT (jc_1 (List.mem_of_getElem? (i := 99) rfl)) rfl
set_option maxRecDepth 100000 in
theorem jt_100 : Cond.fieldLinkNest RX8 54 "StringsSheet$Town" "earns" "[I" "StringsSheet" ∈ jw_tbl := jw_inT (jc_1 (List.mem_of_getElem? (i := 100) rfl)) rfl
set_option maxRecDepth 100000 in
theorem jt_101 : Cond.fieldLinkNest RX5 109 "StringsSheet$Town" "earns" "[I" "StringsSheet" ∈ jw_tbl := jw_inT (jc_1 (List.mem_of_getElem? (i := 101) rfl)) rfl
set_option maxRecDepth 100000 in
theorem jt_102 : Cond.fieldLink RX9 15 "StringsSheet$Town" "streets" "[I" ∈ jw_tbl := jw_inT (jc_1 (List.mem_of_getElem? (i := 102) rfl)) rfl
set_option maxRecDepth 100000 in
theorem jt_103 : Cond.fieldLink RX9 18 "StringsSheet$Town" "walks" "[I" ∈ jw_tbl := jw_inT (jc_1 (List.mem_of_getElem? (i := 103) rfl)) rfl
set_option maxRecDepth 100000 in
theorem jt_104 : Cond.fieldLink RX9 21 "StringsSheet$Town" "hearings" "[I" ∈ jw_tbl := jw_inT (jc_1 (List.mem_of_getElem? (i := 104) rfl)) rfl
set_option maxRecDepth 100000 in
theorem jt_105 : Cond.fieldLink RX9 34 "StringsSheet$Town" "cellars" "I" ∈ jw_tbl := jw_inT (jc_1 (List.mem_of_getElem? (i := 105) rfl)) rfl
set_option maxRecDepth 100000 in
theorem jt_106 : Cond.fieldLinkNest RX5 69 "StringsSheet$Town" "cellars" "I" "StringsSheet" ∈ jw_tbl := jw_inT (jc_1 (List.mem_of_getElem? (i := 106) rfl)) rfl
set_option maxRecDepth 100000 in
theorem jt_107 : Cond.fieldLinkNest RX11 381 "StringsSheet$Town" "cellars" "I" "StringsSheet" ∈ jw_tbl := jw_inT (jc_1 (List.mem_of_getElem? (i := 107) rfl)) rfl
set_option maxRecDepth 100000 in
theorem jt_108 : Cond.fieldLink RX9 24 "StringsSheet$Town" "cellarCorner" "[I" ∈ jw_tbl := jw_inT (jc_1 (List.mem_of_getElem? (i := 108) rfl)) rfl
set_option maxRecDepth 100000 in
theorem jt_109 : Cond.fieldLinkNest RX5 87 "StringsSheet$Town" "cellarCorner" "[I" "StringsSheet" ∈ jw_tbl := jw_inT (jc_1 (List.mem_of_getElem? (i := 109) rfl)) rfl
set_option maxRecDepth 100000 in
theorem jt_110 : Cond.fieldLink RX9 27 "StringsSheet$Town" "cellarRisk" "[I" ∈ jw_tbl := jw_inT (jc_1 (List.mem_of_getElem? (i := 110) rfl)) rfl
set_option maxRecDepth 100000 in
theorem jt_111 : Cond.fieldLinkNest RX5 93 "StringsSheet$Town" "cellarRisk" "[I" "StringsSheet" ∈ jw_tbl := jw_inT (jc_1 (List.mem_of_getElem? (i := 111) rfl)) rfl
set_option maxRecDepth 100000 in
theorem jt_112 : Cond.fieldLink RX9 47 "StringsSheet$Town" "near" "I" ∈ jw_tbl := jw_inT (jc_1 (List.mem_of_getElem? (i := 112) rfl)) rfl
set_option maxRecDepth 100000 in
theorem jt_113 : Cond.fieldLinkNest RX8 76 "StringsSheet$Town" "near" "I" "StringsSheet" ∈ jw_tbl := jw_inT (jc_1 (List.mem_of_getElem? (i := 113) rfl)) rfl
set_option maxRecDepth 100000 in
theorem jt_114 : Cond.fieldLink RX9 50 "StringsSheet$Town" "quiet" "I" ∈ jw_tbl := jw_inT (jc_1 (List.mem_of_getElem? (i := 114) rfl)) rfl
set_option maxRecDepth 100000 in
theorem jt_115 : Cond.fieldLinkNest RX7 78 "StringsSheet$Town" "quiet" "I" "StringsSheet" ∈ jw_tbl := jw_inT (jc_1 (List.mem_of_getElem? (i := 115) rfl)) rfl
set_option maxRecDepth 100000 in
theorem jt_116 : Cond.fieldLink RX9 53 "StringsSheet$Town" "pass" "I" ∈ jw_tbl := jw_inT (jc_1 (List.mem_of_getElem? (i := 116) rfl)) rfl
set_option maxRecDepth 100000 in
theorem jt_140 : Cond.classLink RX7 20 RX10 ∈ jw_tbl := jw_inT (jc_1 (List.mem_of_getElem? (i := 140) rfl)) rfl
set_option maxRecDepth 100000 in
theorem jt_141 : Cond.instantiable RX10 9 ∈ jw_tbl := jw_inT (jc_1 (List.mem_of_getElem? (i := 141) rfl)) rfl
set_option maxRecDepth 100000 in
theorem jt_142 : Cond.methodLinkNest RX7 22 yX10_init "StringsSheet" ∈ jw_tbl := jw_inT (jc_1 (List.mem_of_getElem? (i := 142) rfl)) rfl
set_option maxRecDepth 100000 in
theorem jt_143 : Cond.instanceMethod yX10_init ∈ jw_tbl := jw_inT (jc_1 (List.mem_of_getElem? (i := 143) rfl)) rfl
set_option maxRecDepth 100000 in
theorem jt_144 : Cond.code yX10_init prog_12_method_1_code 1 (Option.none : Option FieldType) ∈ jw_tbl := jw_inT (jc_1 (List.mem_of_getElem? (i := 144) rfl)) rfl
set_option maxRecDepth 100000 in
theorem jt_145 : Cond.methodLink RX10 3 Lib.objectInit ∈ jw_tbl := jw_inT (jc_1 (List.mem_of_getElem? (i := 145) rfl)) rfl
set_option maxRecDepth 100000 in
theorem jt_146 : Cond.fieldLink RX10 30 "StringsSheet$Trade" "goods" "I" ∈ jw_tbl := jw_inT (jc_1 (List.mem_of_getElem? (i := 146) rfl)) rfl
set_option maxRecDepth 100000 in
theorem jt_147 : Cond.fieldLinkNest RX11 375 "StringsSheet$Trade" "goods" "I" "StringsSheet" ∈ jw_tbl := jw_inT (jc_1 (List.mem_of_getElem? (i := 147) rfl)) rfl
set_option maxRecDepth 100000 in
theorem jt_148 : Cond.fieldLink RX10 9 "StringsSheet$Trade" "fold" "[I" ∈ jw_tbl := jw_inT (jc_1 (List.mem_of_getElem? (i := 148) rfl)) rfl
set_option maxRecDepth 100000 in
theorem jt_149 : Cond.fieldLink RX10 15 "StringsSheet$Trade" "worth" "[I" ∈ jw_tbl := jw_inT (jc_1 (List.mem_of_getElem? (i := 149) rfl)) rfl
set_option maxRecDepth 100000 in
theorem jt_150 : Cond.fieldLink RX10 18 "StringsSheet$Trade" "fine" "[I" ∈ jw_tbl := jw_inT (jc_1 (List.mem_of_getElem? (i := 150) rfl)) rfl
set_option maxRecDepth 100000 in
theorem jt_151 : Cond.fieldLinkNest RX5 32 "StringsSheet$Trade" "sellers" "I" "StringsSheet" ∈ jw_tbl := jw_inT (jc_1 (List.mem_of_getElem? (i := 151) rfl)) rfl
set_option maxRecDepth 100000 in
theorem jt_152 : Cond.fieldLink RX10 34 "StringsSheet$Trade" "sellers" "I" ∈ jw_tbl := jw_inT (jc_1 (List.mem_of_getElem? (i := 152) rfl)) rfl
set_option maxRecDepth 100000 in
theorem jt_153 : Cond.fieldLinkNest RX8 38 "StringsSheet$Trade" "sellers" "I" "StringsSheet" ∈ jw_tbl := jw_inT (jc_1 (List.mem_of_getElem? (i := 153) rfl)) rfl
set_option maxRecDepth 100000 in
theorem jt_154 : Cond.fieldLinkNest RX3 54 "StringsSheet$Trade" "sellers" "I" "StringsSheet" ∈ jw_tbl := jw_inT (jc_1 (List.mem_of_getElem? (i := 154) rfl)) rfl
set_option maxRecDepth 100000 in
theorem jt_155 : Cond.fieldLinkNest RX11 223 "StringsSheet$Trade" "sellers" "I" "StringsSheet" ∈ jw_tbl := jw_inT (jc_1 (List.mem_of_getElem? (i := 155) rfl)) rfl
set_option maxRecDepth 100000 in
theorem jt_156 : Cond.fieldLink RX10 21 "StringsSheet$Trade" "goodsOf" "[I" ∈ jw_tbl := jw_inT (jc_1 (List.mem_of_getElem? (i := 156) rfl)) rfl
set_option maxRecDepth 100000 in
theorem jt_157 : Cond.fieldLinkNest RX8 44 "StringsSheet$Trade" "goodsOf" "[I" "StringsSheet" ∈ jw_tbl := jw_inT (jc_1 (List.mem_of_getElem? (i := 157) rfl)) rfl
set_option maxRecDepth 100000 in
theorem jt_158 : Cond.fieldLinkNest RX11 175 "StringsSheet$Trade" "goodsOf" "[I" "StringsSheet" ∈ jw_tbl := jw_inT (jc_1 (List.mem_of_getElem? (i := 158) rfl)) rfl
set_option maxRecDepth 100000 in
theorem jt_159 : Cond.fieldLink RX10 24 "StringsSheet$Trade" "cornerOf" "[I" ∈ jw_tbl := jw_inT (jc_1 (List.mem_of_getElem? (i := 159) rfl)) rfl
set_option maxRecDepth 100000 in
theorem jt_160 : Cond.fieldLinkNest RX8 47 "StringsSheet$Trade" "cornerOf" "[I" "StringsSheet" ∈ jw_tbl := jw_inT (jc_1 (List.mem_of_getElem? (i := 160) rfl)) rfl
set_option maxRecDepth 100000 in
theorem jt_161 : Cond.fieldLinkNest RX0 50 "StringsSheet$Trade" "cornerOf" "[I" "StringsSheet" ∈ jw_tbl := jw_inT (jc_1 (List.mem_of_getElem? (i := 161) rfl)) rfl
set_option maxRecDepth 100000 in
theorem jt_162 : Cond.fieldLinkNest RX5 84 "StringsSheet$Trade" "cornerOf" "[I" "StringsSheet" ∈ jw_tbl := jw_inT (jc_1 (List.mem_of_getElem? (i := 162) rfl)) rfl
set_option maxRecDepth 100000 in
theorem jt_163 : Cond.fieldLinkNest RX3 63 "StringsSheet$Trade" "cornerOf" "[I" "StringsSheet" ∈ jw_tbl := jw_inT (jc_1 (List.mem_of_getElem? (i := 163) rfl)) rfl
set_option maxRecDepth 100000 in
theorem jt_164 : Cond.fieldLinkNest RX11 171 "StringsSheet$Trade" "cornerOf" "[I" "StringsSheet" ∈ jw_tbl := jw_inT (jc_1 (List.mem_of_getElem? (i := 164) rfl)) rfl
set_option maxRecDepth 100000 in
theorem jt_165 : Cond.fieldLink RX10 37 "StringsSheet$Trade" "watchers" "I" ∈ jw_tbl := jw_inT (jc_1 (List.mem_of_getElem? (i := 165) rfl)) rfl
set_option maxRecDepth 100000 in
theorem jt_166 : Cond.fieldLinkNest RX3 74 "StringsSheet$Trade" "watchers" "I" "StringsSheet" ∈ jw_tbl := jw_inT (jc_1 (List.mem_of_getElem? (i := 166) rfl)) rfl
set_option maxRecDepth 100000 in
theorem jt_167 : Cond.fieldLinkNest RX11 378 "StringsSheet$Trade" "watchers" "I" "StringsSheet" ∈ jw_tbl := jw_inT (jc_1 (List.mem_of_getElem? (i := 167) rfl)) rfl
set_option maxRecDepth 100000 in
theorem jt_168 : Cond.fieldLink RX10 27 "StringsSheet$Trade" "watchOf" "[I" ∈ jw_tbl := jw_inT (jc_1 (List.mem_of_getElem? (i := 168) rfl)) rfl
set_option maxRecDepth 100000 in
theorem jt_169 : Cond.fieldLinkNest RX3 87 "StringsSheet$Trade" "watchOf" "[I" "StringsSheet" ∈ jw_tbl := jw_inT (jc_1 (List.mem_of_getElem? (i := 169) rfl)) rfl
set_option maxRecDepth 100000 in
theorem jt_170 : Cond.fieldLinkNest RX11 190 "StringsSheet$Trade" "watchOf" "[I" "StringsSheet" ∈ jw_tbl := jw_inT (jc_1 (List.mem_of_getElem? (i := 170) rfl)) rfl
set_option maxRecDepth 100000 in
theorem jt_190 : Cond.classLink RX7 27 RX3 ∈ jw_tbl := jw_inT (jc_1 (List.mem_of_getElem? (i := 190) rfl)) rfl
set_option maxRecDepth 100000 in
theorem jt_191 : Cond.instantiable RX3 7 ∈ jw_tbl := jw_inT (jc_1 (List.mem_of_getElem? (i := 191) rfl)) rfl
set_option maxRecDepth 100000 in
theorem jt_192 : Cond.methodLinkNest RX7 29 yX3_init "StringsSheet" ∈ jw_tbl := jw_inT (jc_1 (List.mem_of_getElem? (i := 192) rfl)) rfl
set_option maxRecDepth 100000 in
theorem jt_193 : Cond.instanceMethod yX3_init ∈ jw_tbl := jw_inT (jc_1 (List.mem_of_getElem? (i := 193) rfl)) rfl
set_option maxRecDepth 100000 in
theorem jt_194 : Cond.code yX3_init prog_5_method_1_code 1 (Option.none : Option FieldType) ∈ jw_tbl := jw_inT (jc_1 (List.mem_of_getElem? (i := 194) rfl)) rfl
set_option maxRecDepth 100000 in
theorem jt_195 : Cond.methodLink RX3 3 Lib.objectInit ∈ jw_tbl := jw_inT (jc_1 (List.mem_of_getElem? (i := 195) rfl)) rfl
set_option maxRecDepth 100000 in
theorem jt_196 : Cond.fieldLink RX3 27 "StringsSheet$Raid" "sides" "I" ∈ jw_tbl := jw_inT (jc_1 (List.mem_of_getElem? (i := 196) rfl)) rfl
set_option maxRecDepth 100000 in
theorem jt_197 : Cond.fieldLinkNest RX0 29 "StringsSheet$Raid" "sides" "I" "StringsSheet" ∈ jw_tbl := jw_inT (jc_1 (List.mem_of_getElem? (i := 197) rfl)) rfl
set_option maxRecDepth 100000 in
theorem jt_198 : Cond.fieldLinkNest RX11 239 "StringsSheet$Raid" "sides" "I" "StringsSheet" ∈ jw_tbl := jw_inT (jc_1 (List.mem_of_getElem? (i := 198) rfl)) rfl
set_option maxRecDepth 100000 in
theorem jt_199 : Cond.fieldLink RX3 31 "StringsSheet$Raid" "kept" "Z" ∈ jw_tbl := jw_inT (jc_1 (List.mem_of_getElem? (i := 199) rfl)) rfl
set_option maxRecDepth 100000 in
theorem jt_200 : Cond.fieldLinkNest RX11 265 "StringsSheet$Raid" "kept" "Z" "StringsSheet" ∈ jw_tbl := jw_inT (jc_1 (List.mem_of_getElem? (i := 200) rfl)) rfl
set_option maxRecDepth 100000 in
theorem jt_201 : Cond.fieldLink RX3 9 "StringsSheet$Raid" "comes" "[I" ∈ jw_tbl := jw_inT (jc_1 (List.mem_of_getElem? (i := 201) rfl)) rfl
set_option maxRecDepth 100000 in
theorem jt_202 : Cond.fieldLink RX3 15 "StringsSheet$Raid" "warned" "[I" ∈ jw_tbl := jw_inT (jc_1 (List.mem_of_getElem? (i := 202) rfl)) rfl
set_option maxRecDepth 100000 in
theorem jt_203 : Cond.fieldLinkNest RX11 242 "StringsSheet$Raid" "warned" "[I" "StringsSheet" ∈ jw_tbl := jw_inT (jc_1 (List.mem_of_getElem? (i := 203) rfl)) rfl
set_option maxRecDepth 100000 in
theorem jt_204 : Cond.fieldLink RX3 18 "StringsSheet$Raid" "met" "[I" ∈ jw_tbl := jw_inT (jc_1 (List.mem_of_getElem? (i := 204) rfl)) rfl
set_option maxRecDepth 100000 in
theorem jt_205 : Cond.fieldLinkNest RX11 245 "StringsSheet$Raid" "met" "[I" "StringsSheet" ∈ jw_tbl := jw_inT (jc_1 (List.mem_of_getElem? (i := 205) rfl)) rfl
set_option maxRecDepth 100000 in
theorem jt_206 : Cond.fieldLink RX3 21 "StringsSheet$Raid" "outcome" "[I" ∈ jw_tbl := jw_inT (jc_1 (List.mem_of_getElem? (i := 206) rfl)) rfl
set_option maxRecDepth 100000 in
theorem jt_207 : Cond.fieldLinkNest RX0 34 "StringsSheet$Raid" "outcome" "[I" "StringsSheet" ∈ jw_tbl := jw_inT (jc_1 (List.mem_of_getElem? (i := 207) rfl)) rfl
set_option maxRecDepth 100000 in
theorem jt_208 : Cond.fieldLinkNest RX11 248 "StringsSheet$Raid" "outcome" "[I" "StringsSheet" ∈ jw_tbl := jw_inT (jc_1 (List.mem_of_getElem? (i := 208) rfl)) rfl
set_option maxRecDepth 100000 in
theorem jt_209 : Cond.fieldLink RX3 24 "StringsSheet$Raid" "spared" "[I" ∈ jw_tbl := jw_inT (jc_1 (List.mem_of_getElem? (i := 209) rfl)) rfl
set_option maxRecDepth 100000 in
theorem jt_210 : Cond.fieldLinkNest RX1 40 "StringsSheet$Raid" "spared" "[I" "StringsSheet" ∈ jw_tbl := jw_inT (jc_1 (List.mem_of_getElem? (i := 210) rfl)) rfl
set_option maxRecDepth 100000 in
theorem jt_226 : Cond.classLink RX7 34 RX1 ∈ jw_tbl := jw_inT (jc_1 (List.mem_of_getElem? (i := 226) rfl)) rfl
set_option maxRecDepth 100000 in
theorem jt_227 : Cond.instantiable RX1 3 ∈ jw_tbl := jw_inT (jc_1 (List.mem_of_getElem? (i := 227) rfl)) rfl
set_option maxRecDepth 100000 in
theorem jt_228 : Cond.methodLinkNest RX7 36 yX1_init "StringsSheet" ∈ jw_tbl := jw_inT (jc_1 (List.mem_of_getElem? (i := 228) rfl)) rfl
set_option maxRecDepth 100000 in
theorem jt_229 : Cond.instanceMethod yX1_init ∈ jw_tbl := jw_inT (jc_1 (List.mem_of_getElem? (i := 229) rfl)) rfl
set_option maxRecDepth 100000 in
theorem jt_230 : Cond.code yX1_init prog_3_method_1_code 1 (Option.none : Option FieldType) ∈ jw_tbl := jw_inT (jc_1 (List.mem_of_getElem? (i := 230) rfl)) rfl
set_option maxRecDepth 100000 in
theorem jt_231 : Cond.methodLink RX1 3 Lib.objectInit ∈ jw_tbl := jw_inT (jc_1 (List.mem_of_getElem? (i := 231) rfl)) rfl
set_option maxRecDepth 100000 in
theorem jt_232 : Cond.fieldLink RX1 18 "StringsSheet$Days" "howMany" "I" ∈ jw_tbl := jw_inT (jc_1 (List.mem_of_getElem? (i := 232) rfl)) rfl
set_option maxRecDepth 100000 in
theorem jt_233 : Cond.fieldLinkNest RX11 272 "StringsSheet$Days" "howMany" "I" "StringsSheet" ∈ jw_tbl := jw_inT (jc_1 (List.mem_of_getElem? (i := 233) rfl)) rfl
set_option maxRecDepth 100000 in
theorem jt_234 : Cond.fieldLink RX1 9 "StringsSheet$Days" "came" "[I" ∈ jw_tbl := jw_inT (jc_1 (List.mem_of_getElem? (i := 234) rfl)) rfl
set_option maxRecDepth 100000 in
theorem jt_235 : Cond.fieldLink RX1 15 "StringsSheet$Days" "spared" "[I" ∈ jw_tbl := jw_inT (jc_1 (List.mem_of_getElem? (i := 235) rfl)) rfl
set_option maxRecDepth 100000 in
theorem jt_243 : Cond.classLink RX7 41 RX2 ∈ jw_tbl := jw_inT (jc_2 (List.mem_of_getElem? (i := 3) rfl)) rfl
set_option maxRecDepth 100000 in
theorem jt_244 : Cond.instantiable RX2 2 ∈ jw_tbl := jw_inT (jc_2 (List.mem_of_getElem? (i := 4) rfl)) rfl
set_option maxRecDepth 100000 in
theorem jt_245 : Cond.methodLinkNest RX7 43 yX2_init "StringsSheet" ∈ jw_tbl := jw_inT (jc_2 (List.mem_of_getElem? (i := 5) rfl)) rfl
set_option maxRecDepth 100000 in
theorem jt_246 : Cond.instanceMethod yX2_init ∈ jw_tbl := jw_inT (jc_2 (List.mem_of_getElem? (i := 6) rfl)) rfl
set_option maxRecDepth 100000 in
theorem jt_247 : Cond.code yX2_init prog_4_method_1_code 1 (Option.none : Option FieldType) ∈ jw_tbl := jw_inT (jc_2 (List.mem_of_getElem? (i := 7) rfl)) rfl
set_option maxRecDepth 100000 in
theorem jt_248 : Cond.methodLink RX2 3 Lib.objectInit ∈ jw_tbl := jw_inT (jc_2 (List.mem_of_getElem? (i := 8) rfl)) rfl
set_option maxRecDepth 100000 in
theorem jt_249 : Cond.fieldLink RX2 11 "StringsSheet$Debts" "sums" "[I" ∈ jw_tbl := jw_inT (jc_2 (List.mem_of_getElem? (i := 9) rfl)) rfl
set_option maxRecDepth 100000 in
theorem jt_250 : Cond.fieldLink RX2 15 "StringsSheet$Debts" "ring" "[I" ∈ jw_tbl := jw_inT (jc_2 (List.mem_of_getElem? (i := 10) rfl)) rfl
set_option maxRecDepth 100000 in
theorem jt_256 : Cond.fieldLink RX7 7 "StringsSheet$Sheet" "present" "Z" ∈ jw_tbl := jw_inT (jc_2 (List.mem_of_getElem? (i := 16) rfl)) rfl
set_option maxRecDepth 100000 in
theorem jt_257 : Cond.fieldLinkNest RX4 58 "StringsSheet$Sheet" "present" "Z" "StringsSheet" ∈ jw_tbl := jw_inT (jc_2 (List.mem_of_getElem? (i := 17) rfl)) rfl
set_option maxRecDepth 100000 in
theorem jt_258 : Cond.fieldLinkNest RX11 197 "StringsSheet$Sheet" "present" "Z" "StringsSheet" ∈ jw_tbl := jw_inT (jc_2 (List.mem_of_getElem? (i := 18) rfl)) rfl
set_option maxRecDepth 100000 in
theorem jt_259 : Cond.fieldLinkNest RX5 15 "StringsSheet$Sheet" "town" "LStringsSheet$Town;" "StringsSheet" ∈ jw_tbl := jw_inT (jc_2 (List.mem_of_getElem? (i := 19) rfl)) rfl
set_option maxRecDepth 100000 in
theorem jt_260 : Cond.fieldLink RX7 16 "StringsSheet$Sheet" "town" "LStringsSheet$Town;" ∈ jw_tbl := jw_inT (jc_2 (List.mem_of_getElem? (i := 20) rfl)) rfl
set_option maxRecDepth 100000 in
theorem jt_261 : Cond.fieldLinkNest RX8 21 "StringsSheet$Sheet" "town" "LStringsSheet$Town;" "StringsSheet" ∈ jw_tbl := jw_inT (jc_2 (List.mem_of_getElem? (i := 21) rfl)) rfl
set_option maxRecDepth 100000 in
theorem jt_262 : Cond.fieldLinkNest RX0 37 "StringsSheet$Sheet" "town" "LStringsSheet$Town;" "StringsSheet" ∈ jw_tbl := jw_inT (jc_2 (List.mem_of_getElem? (i := 22) rfl)) rfl
set_option maxRecDepth 100000 in
theorem jt_263 : Cond.fieldLinkNest RX4 49 "StringsSheet$Sheet" "town" "LStringsSheet$Town;" "StringsSheet" ∈ jw_tbl := jw_inT (jc_2 (List.mem_of_getElem? (i := 23) rfl)) rfl
set_option maxRecDepth 100000 in
theorem jt_264 : Cond.fieldLinkNest RX11 137 "StringsSheet$Sheet" "town" "LStringsSheet$Town;" "StringsSheet" ∈ jw_tbl := jw_inT (jc_2 (List.mem_of_getElem? (i := 24) rfl)) rfl
set_option maxRecDepth 100000 in
theorem jt_265 : Cond.fieldLinkNest RX5 22 "StringsSheet$Sheet" "trade" "LStringsSheet$Trade;" "StringsSheet" ∈ jw_tbl := jw_inT (jc_2 (List.mem_of_getElem? (i := 25) rfl)) rfl
set_option maxRecDepth 100000 in
theorem jt_266 : Cond.fieldLink RX7 23 "StringsSheet$Sheet" "trade" "LStringsSheet$Trade;" ∈ jw_tbl := jw_inT (jc_2 (List.mem_of_getElem? (i := 26) rfl)) rfl
set_option maxRecDepth 100000 in
theorem jt_267 : Cond.fieldLinkNest RX8 28 "StringsSheet$Sheet" "trade" "LStringsSheet$Trade;" "StringsSheet" ∈ jw_tbl := jw_inT (jc_2 (List.mem_of_getElem? (i := 27) rfl)) rfl
set_option maxRecDepth 100000 in
theorem jt_268 : Cond.fieldLinkNest RX0 46 "StringsSheet$Sheet" "trade" "LStringsSheet$Trade;" "StringsSheet" ∈ jw_tbl := jw_inT (jc_2 (List.mem_of_getElem? (i := 28) rfl)) rfl
set_option maxRecDepth 100000 in
theorem jt_269 : Cond.fieldLinkNest RX11 162 "StringsSheet$Sheet" "trade" "LStringsSheet$Trade;" "StringsSheet" ∈ jw_tbl := jw_inT (jc_2 (List.mem_of_getElem? (i := 29) rfl)) rfl
set_option maxRecDepth 100000 in
theorem jt_270 : Cond.fieldLinkNest RX4 104 "StringsSheet$Sheet" "trade" "LStringsSheet$Trade;" "StringsSheet" ∈ jw_tbl := jw_inT (jc_2 (List.mem_of_getElem? (i := 30) rfl)) rfl
set_option maxRecDepth 100000 in
theorem jt_271 : Cond.fieldLink RX7 30 "StringsSheet$Sheet" "latest" "LStringsSheet$Raid;" ∈ jw_tbl := jw_inT (jc_2 (List.mem_of_getElem? (i := 31) rfl)) rfl
set_option maxRecDepth 100000 in
theorem jt_272 : Cond.fieldLinkNest RX0 23 "StringsSheet$Sheet" "latest" "LStringsSheet$Raid;" "StringsSheet" ∈ jw_tbl := jw_inT (jc_2 (List.mem_of_getElem? (i := 32) rfl)) rfl
set_option maxRecDepth 100000 in
theorem jt_273 : Cond.fieldLinkNest RX11 206 "StringsSheet$Sheet" "latest" "LStringsSheet$Raid;" "StringsSheet" ∈ jw_tbl := jw_inT (jc_2 (List.mem_of_getElem? (i := 33) rfl)) rfl
set_option maxRecDepth 100000 in
theorem jt_274 : Cond.fieldLinkNest RX5 27 "StringsSheet$Sheet" "days" "LStringsSheet$Days;" "StringsSheet" ∈ jw_tbl := jw_inT (jc_2 (List.mem_of_getElem? (i := 34) rfl)) rfl
set_option maxRecDepth 100000 in
theorem jt_275 : Cond.fieldLinkNest RX8 33 "StringsSheet$Sheet" "days" "LStringsSheet$Days;" "StringsSheet" ∈ jw_tbl := jw_inT (jc_2 (List.mem_of_getElem? (i := 35) rfl)) rfl
set_option maxRecDepth 100000 in
theorem jt_276 : Cond.fieldLink RX7 37 "StringsSheet$Sheet" "days" "LStringsSheet$Days;" ∈ jw_tbl := jw_inT (jc_2 (List.mem_of_getElem? (i := 36) rfl)) rfl
set_option maxRecDepth 100000 in
theorem jt_277 : Cond.fieldLinkNest RX11 268 "StringsSheet$Sheet" "days" "LStringsSheet$Days;" "StringsSheet" ∈ jw_tbl := jw_inT (jc_2 (List.mem_of_getElem? (i := 37) rfl)) rfl
set_option maxRecDepth 100000 in
theorem jt_278 : Cond.fieldLink RX7 44 "StringsSheet$Sheet" "debts" "LStringsSheet$Debts;" ∈ jw_tbl := jw_inT (jc_2 (List.mem_of_getElem? (i := 38) rfl)) rfl
set_option maxRecDepth 100000 in
theorem jt_279 : Cond.fieldLinkNest RX11 343 "StringsSheet$Sheet" "debts" "LStringsSheet$Debts;" "StringsSheet" ∈ jw_tbl := jw_inT (jc_2 (List.mem_of_getElem? (i := 39) rfl)) rfl
set_option maxRecDepth 100000 in
theorem jt_294 : Cond.classLink RX11 41 RX8 ∈ jw_tbl := jw_inT (jc_2 (List.mem_of_getElem? (i := 54) rfl)) rfl
set_option maxRecDepth 100000 in
theorem jt_295 : Cond.instantiable RX8 9 ∈ jw_tbl := jw_inT (jc_2 (List.mem_of_getElem? (i := 55) rfl)) rfl
set_option maxRecDepth 100000 in
theorem jt_296 : Cond.methodLink RX11 43 yX8_init ∈ jw_tbl := jw_inT (jc_2 (List.mem_of_getElem? (i := 56) rfl)) rfl
set_option maxRecDepth 100000 in
theorem jt_297 : Cond.instanceMethod yX8_init ∈ jw_tbl := jw_inT (jc_2 (List.mem_of_getElem? (i := 57) rfl)) rfl
set_option maxRecDepth 100000 in
theorem jt_298 : Cond.code yX8_init prog_10_method_1_code 2 (Option.none : Option FieldType) ∈ jw_tbl := jw_inT (jc_2 (List.mem_of_getElem? (i := 58) rfl)) rfl
set_option maxRecDepth 100000 in
theorem jt_299 : Cond.methodLink RX8 3 Lib.objectInit ∈ jw_tbl := jw_inT (jc_2 (List.mem_of_getElem? (i := 59) rfl)) rfl
set_option maxRecDepth 100000 in
theorem jt_300 : Cond.fieldLink RX8 27 "StringsSheet$Stands" "town" "LStringsSheet$Town;" ∈ jw_tbl := jw_inT (jc_2 (List.mem_of_getElem? (i := 60) rfl)) rfl
set_option maxRecDepth 100000 in
theorem jt_301 : Cond.fieldLink RX8 32 "StringsSheet$Stands" "trade" "LStringsSheet$Trade;" ∈ jw_tbl := jw_inT (jc_2 (List.mem_of_getElem? (i := 61) rfl)) rfl
set_option maxRecDepth 100000 in
theorem jt_302 : Cond.fieldLink RX8 37 "StringsSheet$Stands" "days" "LStringsSheet$Days;" ∈ jw_tbl := jw_inT (jc_2 (List.mem_of_getElem? (i := 62) rfl)) rfl
set_option maxRecDepth 100000 in
theorem jt_303 : Cond.fieldLink RX8 9 "StringsSheet$Stands" "where" "[I" ∈ jw_tbl := jw_inT (jc_2 (List.mem_of_getElem? (i := 63) rfl)) rfl
set_option maxRecDepth 100000 in
theorem jt_304 : Cond.fieldLink RX8 15 "StringsSheet$Stands" "crowd" "[I" ∈ jw_tbl := jw_inT (jc_2 (List.mem_of_getElem? (i := 64) rfl)) rfl
set_option maxRecDepth 100000 in
theorem jt_305 : Cond.fieldLink RX8 18 "StringsSheet$Stands" "scores" "[I" ∈ jw_tbl := jw_inT (jc_2 (List.mem_of_getElem? (i := 65) rfl)) rfl
set_option maxRecDepth 100000 in
theorem jt_306 : Cond.fieldLink RX8 97 "StringsSheet$Stands" "sought" "I" ∈ jw_tbl := jw_inT (jc_2 (List.mem_of_getElem? (i := 66) rfl)) rfl
set_option maxRecDepth 100000 in
theorem jt_307 : Cond.fieldLink RX8 100 "StringsSheet$Stands" "seen" "I" ∈ jw_tbl := jw_inT (jc_2 (List.mem_of_getElem? (i := 67) rfl)) rfl
set_option maxRecDepth 100000 in
theorem jt_308 : Cond.fieldLink RX8 103 "StringsSheet$Stands" "answer" "I" ∈ jw_tbl := jw_inT (jc_2 (List.mem_of_getElem? (i := 68) rfl)) rfl
set_option maxRecDepth 100000 in
theorem jt_328 : Cond.arrayClass FieldType.boolean ∈ jw_tbl := jw_inT (jc_2 (List.mem_of_getElem? (i := 88) rfl)) rfl
set_option maxRecDepth 100000 in
theorem jt_329 : Cond.classLink RX11 50 RX5 ∈ jw_tbl := jw_inT (jc_2 (List.mem_of_getElem? (i := 89) rfl)) rfl
set_option maxRecDepth 100000 in
theorem jt_330 : Cond.instantiable RX5 6 ∈ jw_tbl := jw_inT (jc_2 (List.mem_of_getElem? (i := 90) rfl)) rfl
set_option maxRecDepth 100000 in
theorem jt_331 : Cond.methodLink RX11 52 yX5_init ∈ jw_tbl := jw_inT (jc_2 (List.mem_of_getElem? (i := 91) rfl)) rfl
set_option maxRecDepth 100000 in
theorem jt_332 : Cond.instanceMethod yX5_init ∈ jw_tbl := jw_inT (jc_2 (List.mem_of_getElem? (i := 92) rfl)) rfl
set_option maxRecDepth 100000 in
theorem jt_333 : Cond.code yX5_init prog_7_method_1_code 2 (Option.none : Option FieldType) ∈ jw_tbl := jw_inT (jc_2 (List.mem_of_getElem? (i := 93) rfl)) rfl
set_option maxRecDepth 100000 in
theorem jt_334 : Cond.methodLink RX5 3 Lib.objectInit ∈ jw_tbl := jw_inT (jc_2 (List.mem_of_getElem? (i := 94) rfl)) rfl
set_option maxRecDepth 100000 in
theorem jt_335 : Cond.fieldLink RX5 21 "StringsSheet$Reckoner" "town" "LStringsSheet$Town;" ∈ jw_tbl := jw_inT (jc_2 (List.mem_of_getElem? (i := 95) rfl)) rfl
set_option maxRecDepth 100000 in
theorem jt_336 : Cond.fieldLink RX5 26 "StringsSheet$Reckoner" "trade" "LStringsSheet$Trade;" ∈ jw_tbl := jw_inT (jc_2 (List.mem_of_getElem? (i := 96) rfl)) rfl
set_option maxRecDepth 100000 in
theorem jt_337 : Cond.fieldLink RX5 31 "StringsSheet$Reckoner" "days" "LStringsSheet$Days;" ∈ jw_tbl := jw_inT (jc_2 (List.mem_of_getElem? (i := 97) rfl)) rfl
set_option maxRecDepth 100000 in
theorem jt_338 : Cond.fieldLink RX5 9 "StringsSheet$Reckoner" "leastLeft" "[I" ∈ jw_tbl := jw_inT (jc_2 (List.mem_of_getElem? (i := 98) rfl)) rfl
set_option maxRecDepth 100000 in
theorem jt_339 : Cond.fieldLink RX5 61 "StringsSheet$Reckoner" "above" "J" ∈ jw_tbl := jw_inT (jc_2 (List.mem_of_getElem? (i := 99) rfl)) rfl
set_option maxRecDepth 100000 in
theorem jt_340 : Cond.fieldLinkNest RX11 316 "StringsSheet$Reckoner" "above" "J" "StringsSheet" ∈ jw_tbl := jw_inT (jc_2 (List.mem_of_getElem? (i := 100) rfl)) rfl
set_option maxRecDepth 100000 in
theorem jt_341 : Cond.fieldLink RX5 51 "StringsSheet$Reckoner" "below" "J" ∈ jw_tbl := jw_inT (jc_2 (List.mem_of_getElem? (i := 101) rfl)) rfl
set_option maxRecDepth 100000 in
theorem jt_342 : Cond.fieldLinkNest RX11 320 "StringsSheet$Reckoner" "below" "J" "StringsSheet" ∈ jw_tbl := jw_inT (jc_2 (List.mem_of_getElem? (i := 102) rfl)) rfl
set_option maxRecDepth 100000 in
theorem jt_356 : Cond.classLink RX11 57 RX0 ∈ jw_tbl := jw_inT (jc_2 (List.mem_of_getElem? (i := 116) rfl)) rfl
set_option maxRecDepth 100000 in
theorem jt_357 : Cond.instantiable RX0 3 ∈ jw_tbl := jw_inT (jc_2 (List.mem_of_getElem? (i := 117) rfl)) rfl
set_option maxRecDepth 100000 in
theorem jt_358 : Cond.methodLink RX11 59 yX0_init ∈ jw_tbl := jw_inT (jc_2 (List.mem_of_getElem? (i := 118) rfl)) rfl
set_option maxRecDepth 100000 in
theorem jt_359 : Cond.instanceMethod yX0_init ∈ jw_tbl := jw_inT (jc_2 (List.mem_of_getElem? (i := 119) rfl)) rfl
set_option maxRecDepth 100000 in
theorem jt_360 : Cond.code yX0_init prog_2_method_1_code 2 (Option.none : Option FieldType) ∈ jw_tbl := jw_inT (jc_2 (List.mem_of_getElem? (i := 120) rfl)) rfl
set_option maxRecDepth 100000 in
theorem jt_361 : Cond.methodLink RX0 3 Lib.objectInit ∈ jw_tbl := jw_inT (jc_2 (List.mem_of_getElem? (i := 121) rfl)) rfl
set_option maxRecDepth 100000 in
theorem jt_362 : Cond.fieldLink RX0 19 "StringsSheet$Asks" "sheet" "LStringsSheet$Sheet;" ∈ jw_tbl := jw_inT (jc_2 (List.mem_of_getElem? (i := 122) rfl)) rfl
set_option maxRecDepth 100000 in
theorem jt_363 : Cond.fieldLink RX0 11 "StringsSheet$Asks" "begun" "[I" ∈ jw_tbl := jw_inT (jc_2 (List.mem_of_getElem? (i := 123) rfl)) rfl
set_option maxRecDepth 100000 in
theorem jt_364 : Cond.fieldLink RX0 15 "StringsSheet$Asks" "length" "I" ∈ jw_tbl := jw_inT (jc_2 (List.mem_of_getElem? (i := 124) rfl)) rfl
set_option maxRecDepth 100000 in
theorem jt_372 : Cond.fieldLink RX11 12 "StringsSheet" "rows" "LStringsSheet$Rows;" ∈ jw_tbl := jw_inT (jc_2 (List.mem_of_getElem? (i := 132) rfl)) rfl
set_option maxRecDepth 100000 in
theorem jt_373 : Cond.fieldLink RX11 19 "StringsSheet" "reader" "LStringsSheet$Reader;" ∈ jw_tbl := jw_inT (jc_2 (List.mem_of_getElem? (i := 133) rfl)) rfl
set_option maxRecDepth 100000 in
theorem jt_374 : Cond.fieldLink RX11 26 "StringsSheet" "now" "LStringsSheet$Sheet;" ∈ jw_tbl := jw_inT (jc_2 (List.mem_of_getElem? (i := 134) rfl)) rfl
set_option maxRecDepth 100000 in
theorem jt_375 : Cond.fieldLink RX11 30 "StringsSheet" "draft" "LStringsSheet$Sheet;" ∈ jw_tbl := jw_inT (jc_2 (List.mem_of_getElem? (i := 135) rfl)) rfl
set_option maxRecDepth 100000 in
theorem jt_376 : Cond.fieldLink RX11 33 "StringsSheet" "images" "[LStringsSheet$Sheet;" ∈ jw_tbl := jw_inT (jc_2 (List.mem_of_getElem? (i := 136) rfl)) rfl
set_option maxRecDepth 100000 in
theorem jt_377 : Cond.fieldLink RX11 37 "StringsSheet" "imaged" "[Z" ∈ jw_tbl := jw_inT (jc_2 (List.mem_of_getElem? (i := 137) rfl)) rfl
set_option maxRecDepth 100000 in
theorem jt_378 : Cond.fieldLink RX11 46 "StringsSheet" "stands" "LStringsSheet$Stands;" ∈ jw_tbl := jw_inT (jc_2 (List.mem_of_getElem? (i := 138) rfl)) rfl
set_option maxRecDepth 100000 in
theorem jt_379 : Cond.fieldLink RX11 53 "StringsSheet" "reckoner" "LStringsSheet$Reckoner;" ∈ jw_tbl := jw_inT (jc_2 (List.mem_of_getElem? (i := 139) rfl)) rfl
set_option maxRecDepth 100000 in
theorem jt_380 : Cond.fieldLink RX11 60 "StringsSheet" "asks" "LStringsSheet$Asks;" ∈ jw_tbl := jw_inT (jc_2 (List.mem_of_getElem? (i := 140) rfl)) rfl
set_option maxRecDepth 100000 in
theorem jt_381 : Cond.fieldLink RX11 64 "StringsSheet" "latestFault" "I" ∈ jw_tbl := jw_inT (jc_2 (List.mem_of_getElem? (i := 141) rfl)) rfl
set_option maxRecDepth 100000 in
theorem jt_382 : Cond.fieldLink RX11 68 "StringsSheet" "latestFinding" "I" ∈ jw_tbl := jw_inT (jc_2 (List.mem_of_getElem? (i := 142) rfl)) rfl
set_option maxRecDepth 100000 in
theorem jt_406 : Cond.methodLink RL 13 yX11_row ∈ jw_tbl := jw_inT (jc_2 (List.mem_of_getElem? (i := 166) rfl)) rfl
set_option maxRecDepth 100000 in
theorem jt_407 : Cond.instanceMethod yX11_row ∈ jw_tbl := jw_inT (jc_2 (List.mem_of_getElem? (i := 167) rfl)) rfl
set_option maxRecDepth 100000 in
theorem jt_408 : Cond.selects yX11_row.cls yX11_row yX11_row ∈ jw_tbl := jw_inT (jc_2 (List.mem_of_getElem? (i := 168) rfl)) rfl
set_option maxRecDepth 100000 in
theorem jt_409 : Cond.code yX11_row prog_1_method_2_code 4 (Option.some FieldType.long) ∈ jw_tbl := jw_inT (jc_2 (List.mem_of_getElem? (i := 169) rfl)) rfl
set_option maxRecDepth 100000 in
theorem jt_410 : Cond.methodLink RX11 71 yX6_isRow ∈ jw_tbl := jw_inT (jc_2 (List.mem_of_getElem? (i := 170) rfl)) rfl
set_option maxRecDepth 100000 in
theorem jt_411 : Cond.instanceMethod yX6_isRow ∈ jw_tbl := jw_inT (jc_2 (List.mem_of_getElem? (i := 171) rfl)) rfl
set_option maxRecDepth 100000 in
theorem jt_412 : Cond.selects yX6_isRow.cls yX6_isRow yX6_isRow ∈ jw_tbl := jw_inT (jc_2 (List.mem_of_getElem? (i := 172) rfl)) rfl
set_option maxRecDepth 100000 in
theorem jt_413 : Cond.code yX6_isRow prog_8_method_2_code 2 (Option.some FieldType.boolean) ∈ jw_tbl := jw_inT (jc_2 (List.mem_of_getElem? (i := 173) rfl)) rfl
set_option maxRecDepth 100000 in
theorem jt_414 : Cond.constantLong RX11 75 (-9000000000000000001 : Int64) ∈ jw_tbl := jw_inT (jc_2 (List.mem_of_getElem? (i := 174) rfl)) rfl
set_option maxRecDepth 100000 in
theorem jt_415 : Cond.methodLink RX11 77 yX11_found ∈ jw_tbl := jw_inT (jc_2 (List.mem_of_getElem? (i := 175) rfl)) rfl
set_option maxRecDepth 100000 in
theorem jt_417 : Cond.instanceMethod yX11_found ∈ jw_tbl := jw_inT (jc_2 (List.mem_of_getElem? (i := 177) rfl)) rfl
set_option maxRecDepth 100000 in
theorem jt_418 : Cond.code yX11_found prog_1_method_48_code 2 (Option.some FieldType.long) ∈ jw_tbl := jw_inT (jc_2 (List.mem_of_getElem? (i := 178) rfl)) rfl
set_option maxRecDepth 100000 in
theorem jt_419 : Cond.constantLong RX11 387 (-9000000000000000010 : Int64) ∈ jw_tbl := jw_inT (jc_2 (List.mem_of_getElem? (i := 179) rfl)) rfl
set_option maxRecDepth 100000 in
theorem jt_420 : Cond.methodLink RX11 81 yX6_lay ∈ jw_tbl := jw_inT (jc_2 (List.mem_of_getElem? (i := 180) rfl)) rfl
set_option maxRecDepth 100000 in
theorem jt_421 : Cond.instanceMethod yX6_lay ∈ jw_tbl := jw_inT (jc_2 (List.mem_of_getElem? (i := 181) rfl)) rfl
set_option maxRecDepth 100000 in
theorem jt_422 : Cond.selects yX6_lay.cls yX6_lay yX6_lay ∈ jw_tbl := jw_inT (jc_2 (List.mem_of_getElem? (i := 182) rfl)) rfl
set_option maxRecDepth 100000 in
theorem jt_423 : Cond.code yX6_lay prog_8_method_6_code 4 (Option.none : Option FieldType) ∈ jw_tbl := jw_inT (jc_2 (List.mem_of_getElem? (i := 183) rfl)) rfl
set_option maxRecDepth 100000 in
theorem jt_424 : Cond.methodLink RX6 25 yJ7_fill_fda19 ∈ jw_tbl := jw_inT (jc_2 (List.mem_of_getElem? (i := 184) rfl)) rfl
set_option maxRecDepth 100000 in
theorem jt_425 : Cond.static yJ7_fill_fda19 ∈ jw_tbl := jw_inT (jc_2 (List.mem_of_getElem? (i := 185) rfl)) rfl
set_option maxRecDepth 100000 in
theorem jt_426 : Cond.code yJ7_fill_fda19 prog_21_method_104_code 5 (Option.none : Option FieldType) ∈ jw_tbl := jw_inT (jc_2 (List.mem_of_getElem? (i := 186) rfl)) rfl
set_option maxRecDepth 100000 in
theorem jt_427 : Cond.methodLink RJ7 13 yJ7_rangeCheck_23922 ∈ jw_tbl := jw_inT (jc_2 (List.mem_of_getElem? (i := 187) rfl)) rfl
set_option maxRecDepth 100000 in
theorem jt_428 : Cond.static yJ7_rangeCheck_23922 ∈ jw_tbl := jw_inT (jc_2 (List.mem_of_getElem? (i := 188) rfl)) rfl
set_option maxRecDepth 100000 in
theorem jt_429 : Cond.code yJ7_rangeCheck_23922 prog_21_method_30_code 3 (Option.none : Option FieldType) ∈ jw_tbl := jw_inT (jc_2 (List.mem_of_getElem? (i := 189) rfl)) rfl
set_option maxRecDepth 100000 in
theorem jt_430 : Cond.methodLink RX11 85 yX11_foundNothing ∈ jw_tbl := jw_inT (jc_2 (List.mem_of_getElem? (i := 190) rfl)) rfl
set_option maxRecDepth 100000 in
theorem jt_432 : Cond.instanceMethod yX11_foundNothing ∈ jw_tbl := jw_inT (jc_2 (List.mem_of_getElem? (i := 192) rfl)) rfl
set_option maxRecDepth 100000 in
theorem jt_433 : Cond.code yX11_foundNothing prog_1_method_49_code 3 (Option.some FieldType.long) ∈ jw_tbl := jw_inT (jc_2 (List.mem_of_getElem? (i := 193) rfl)) rfl
set_option maxRecDepth 100000 in
theorem jt_434 : Cond.methodLink RL 18 yX11_set ∈ jw_tbl := jw_inT (jc_2 (List.mem_of_getElem? (i := 194) rfl)) rfl
set_option maxRecDepth 100000 in
theorem jt_435 : Cond.instanceMethod yX11_set ∈ jw_tbl := jw_inT (jc_2 (List.mem_of_getElem? (i := 195) rfl)) rfl
set_option maxRecDepth 100000 in
theorem jt_436 : Cond.selects yX11_set.cls yX11_set yX11_set ∈ jw_tbl := jw_inT (jc_2 (List.mem_of_getElem? (i := 196) rfl)) rfl
set_option maxRecDepth 100000 in
theorem jt_437 : Cond.code yX11_set prog_1_method_3_code 4 (Option.some FieldType.long) ∈ jw_tbl := jw_inT (jc_2 (List.mem_of_getElem? (i := 197) rfl)) rfl
set_option maxRecDepth 100000 in
theorem jt_438 : Cond.methodLink RX11 89 yX6_isMissing ∈ jw_tbl := jw_inT (jc_2 (List.mem_of_getElem? (i := 198) rfl)) rfl
set_option maxRecDepth 100000 in
theorem jt_439 : Cond.instanceMethod yX6_isMissing ∈ jw_tbl := jw_inT (jc_2 (List.mem_of_getElem? (i := 199) rfl)) rfl
set_option maxRecDepth 100000 in
theorem jt_440 : Cond.selects yX6_isMissing.cls yX6_isMissing yX6_isMissing ∈ jw_tbl := jw_inT (jc_2 (List.mem_of_getElem? (i := 200) rfl)) rfl
set_option maxRecDepth 100000 in
theorem jt_441 : Cond.code yX6_isMissing prog_8_method_3_code 2 (Option.some FieldType.boolean) ∈ jw_tbl := jw_inT (jc_2 (List.mem_of_getElem? (i := 201) rfl)) rfl
set_option maxRecDepth 100000 in
theorem jt_442 : Cond.methodLink RX11 92 yX6_hasPlaces ∈ jw_tbl := jw_inT (jc_2 (List.mem_of_getElem? (i := 202) rfl)) rfl
set_option maxRecDepth 100000 in
theorem jt_443 : Cond.instanceMethod yX6_hasPlaces ∈ jw_tbl := jw_inT (jc_2 (List.mem_of_getElem? (i := 203) rfl)) rfl
set_option maxRecDepth 100000 in
theorem jt_444 : Cond.selects yX6_hasPlaces.cls yX6_hasPlaces yX6_hasPlaces ∈ jw_tbl := jw_inT (jc_2 (List.mem_of_getElem? (i := 204) rfl)) rfl
set_option maxRecDepth 100000 in
theorem jt_445 : Cond.code yX6_hasPlaces prog_8_method_5_code 4 (Option.some FieldType.boolean) ∈ jw_tbl := jw_inT (jc_2 (List.mem_of_getElem? (i := 205) rfl)) rfl
set_option maxRecDepth 100000 in
theorem jt_446 : Cond.methodLink RX11 96 yX6_put ∈ jw_tbl := jw_inT (jc_2 (List.mem_of_getElem? (i := 206) rfl)) rfl
set_option maxRecDepth 100000 in
theorem jt_447 : Cond.instanceMethod yX6_put ∈ jw_tbl := jw_inT (jc_2 (List.mem_of_getElem? (i := 207) rfl)) rfl
set_option maxRecDepth 100000 in
theorem jt_448 : Cond.selects yX6_put.cls yX6_put yX6_put ∈ jw_tbl := jw_inT (jc_2 (List.mem_of_getElem? (i := 208) rfl)) rfl
set_option maxRecDepth 100000 in
theorem jt_449 : Cond.code yX6_put prog_8_method_8_code 5 (Option.some FieldType.int) ∈ jw_tbl := jw_inT (jc_2 (List.mem_of_getElem? (i := 209) rfl)) rfl
set_option maxRecDepth 100000 in
theorem jt_450 : Cond.methodLink RX6 28 yX6_cutToLane ∈ jw_tbl := jw_inT (jc_2 (List.mem_of_getElem? (i := 210) rfl)) rfl
set_option maxRecDepth 100000 in
theorem jt_451 : Cond.static yX6_cutToLane ∈ jw_tbl := jw_inT (jc_2 (List.mem_of_getElem? (i := 211) rfl)) rfl
set_option maxRecDepth 100000 in
theorem jt_452 : Cond.code yX6_cutToLane prog_8_method_9_code 2 (Option.some FieldType.int) ∈ jw_tbl := jw_inT (jc_2 (List.mem_of_getElem? (i := 212) rfl)) rfl
set_option maxRecDepth 100000 in
theorem jt_453 : Cond.methodLink RL 22 yX11_copy ∈ jw_tbl := jw_inT (jc_2 (List.mem_of_getElem? (i := 213) rfl)) rfl
set_option maxRecDepth 100000 in
theorem jt_454 : Cond.instanceMethod yX11_copy ∈ jw_tbl := jw_inT (jc_2 (List.mem_of_getElem? (i := 214) rfl)) rfl
set_option maxRecDepth 100000 in
theorem jt_455 : Cond.selects yX11_copy.cls yX11_copy yX11_copy ∈ jw_tbl := jw_inT (jc_2 (List.mem_of_getElem? (i := 215) rfl)) rfl
set_option maxRecDepth 100000 in
theorem jt_456 : Cond.code yX11_copy prog_1_method_4_code 6 (Option.some FieldType.long) ∈ jw_tbl := jw_inT (jc_2 (List.mem_of_getElem? (i := 216) rfl)) rfl
set_option maxRecDepth 100000 in
theorem jt_457 : Cond.methodLink RX11 100 yX6_areOfOneLane ∈ jw_tbl := jw_inT (jc_2 (List.mem_of_getElem? (i := 217) rfl)) rfl
set_option maxRecDepth 100000 in
theorem jt_458 : Cond.instanceMethod yX6_areOfOneLane ∈ jw_tbl := jw_inT (jc_2 (List.mem_of_getElem? (i := 218) rfl)) rfl
set_option maxRecDepth 100000 in
theorem jt_459 : Cond.selects yX6_areOfOneLane.cls yX6_areOfOneLane yX6_areOfOneLane ∈ jw_tbl := jw_inT (jc_2 (List.mem_of_getElem? (i := 219) rfl)) rfl
set_option maxRecDepth 100000 in
theorem jt_460 : Cond.code yX6_areOfOneLane prog_8_method_4_code 3 (Option.some FieldType.boolean) ∈ jw_tbl := jw_inT (jc_2 (List.mem_of_getElem? (i := 220) rfl)) rfl
set_option maxRecDepth 100000 in
theorem jt_461 : Cond.methodLink RX11 104 yX6_move ∈ jw_tbl := jw_inT (jc_2 (List.mem_of_getElem? (i := 221) rfl)) rfl
set_option maxRecDepth 100000 in
theorem jt_462 : Cond.instanceMethod yX6_move ∈ jw_tbl := jw_inT (jc_2 (List.mem_of_getElem? (i := 222) rfl)) rfl
set_option maxRecDepth 100000 in
theorem jt_463 : Cond.selects yX6_move.cls yX6_move yX6_move ∈ jw_tbl := jw_inT (jc_2 (List.mem_of_getElem? (i := 223) rfl)) rfl
set_option maxRecDepth 100000 in
theorem jt_464 : Cond.code yX6_move prog_8_method_10_code 6 (Option.none : Option FieldType) ∈ jw_tbl := jw_inT (jc_2 (List.mem_of_getElem? (i := 224) rfl)) rfl
set_option maxRecDepth 100000 in
theorem jt_465 : Cond.methodLink RX6 32 arraycopyName ∈ jw_tbl := jw_inT (jc_2 (List.mem_of_getElem? (i := 225) rfl)) rfl
set_option maxRecDepth 100000 in
theorem jt_466 : Cond.static arraycopyName ∈ jw_tbl := jw_inT (jc_2 (List.mem_of_getElem? (i := 226) rfl)) rfl
set_option maxRecDepth 100000 in
theorem jt_467 : Cond.native arraycopyName ∈ jw_tbl := jw_inT (jc_2 (List.mem_of_getElem? (i := 227) rfl)) rfl
set_option maxRecDepth 100000 in
theorem jt_468 : Cond.methodLink RL 27 yX11_drop ∈ jw_tbl := jw_inT (jc_2 (List.mem_of_getElem? (i := 228) rfl)) rfl
set_option maxRecDepth 100000 in
theorem jt_469 : Cond.instanceMethod yX11_drop ∈ jw_tbl := jw_inT (jc_2 (List.mem_of_getElem? (i := 229) rfl)) rfl
set_option maxRecDepth 100000 in
theorem jt_470 : Cond.selects yX11_drop.cls yX11_drop yX11_drop ∈ jw_tbl := jw_inT (jc_2 (List.mem_of_getElem? (i := 230) rfl)) rfl
set_option maxRecDepth 100000 in
theorem jt_471 : Cond.code yX11_drop prog_1_method_5_code 2 (Option.some FieldType.long) ∈ jw_tbl := jw_inT (jc_2 (List.mem_of_getElem? (i := 231) rfl)) rfl
set_option maxRecDepth 100000 in
theorem jt_472 : Cond.methodLink RX11 108 yX6_takeAway ∈ jw_tbl := jw_inT (jc_2 (List.mem_of_getElem? (i := 232) rfl)) rfl
set_option maxRecDepth 100000 in
theorem jt_473 : Cond.instanceMethod yX6_takeAway ∈ jw_tbl := jw_inT (jc_2 (List.mem_of_getElem? (i := 233) rfl)) rfl
set_option maxRecDepth 100000 in
theorem jt_474 : Cond.selects yX6_takeAway.cls yX6_takeAway yX6_takeAway ∈ jw_tbl := jw_inT (jc_2 (List.mem_of_getElem? (i := 234) rfl)) rfl
set_option maxRecDepth 100000 in
theorem jt_475 : Cond.code yX6_takeAway prog_8_method_11_code 2 (Option.some FieldType.int) ∈ jw_tbl := jw_inT (jc_2 (List.mem_of_getElem? (i := 235) rfl)) rfl
set_option maxRecDepth 100000 in
theorem jt_476 : Cond.methodLink RL 34 yX11_feed ∈ jw_tbl := jw_inT (jc_2 (List.mem_of_getElem? (i := 236) rfl)) rfl
set_option maxRecDepth 100000 in
theorem jt_477 : Cond.instanceMethod yX11_feed ∈ jw_tbl := jw_inT (jc_2 (List.mem_of_getElem? (i := 237) rfl)) rfl
set_option maxRecDepth 100000 in
theorem jt_478 : Cond.selects yX11_feed.cls yX11_feed yX11_feed ∈ jw_tbl := jw_inT (jc_2 (List.mem_of_getElem? (i := 238) rfl)) rfl
set_option maxRecDepth 100000 in
theorem jt_479 : Cond.code yX11_feed prog_1_method_6_code 4 (Option.some FieldType.long) ∈ jw_tbl := jw_inT (jc_2 (List.mem_of_getElem? (i := 239) rfl)) rfl
set_option maxRecDepth 100000 in
theorem jt_480 : Cond.methodLink RX11 112 yX4_hasRoomFor ∈ jw_tbl := jw_inT (jc_3 (List.mem_of_getElem? (i := 0) rfl)) rfl
set_option maxRecDepth 100000 in
theorem jt_481 : Cond.instanceMethod yX4_hasRoomFor ∈ jw_tbl := jw_inT (jc_3 (List.mem_of_getElem? (i := 1) rfl)) rfl
set_option maxRecDepth 100000 in
theorem jt_482 : Cond.selects yX4_hasRoomFor.cls yX4_hasRoomFor yX4_hasRoomFor ∈ jw_tbl := jw_inT (jc_3 (List.mem_of_getElem? (i := 2) rfl)) rfl
set_option maxRecDepth 100000 in
theorem jt_483 : Cond.code yX4_hasRoomFor prog_6_method_2_code 2 (Option.some FieldType.boolean) ∈ jw_tbl := jw_inT (jc_3 (List.mem_of_getElem? (i := 3) rfl)) rfl
set_option maxRecDepth 100000 in
theorem jt_484 : Cond.constantLong RX11 115 (-9000000000000000003 : Int64) ∈ jw_tbl := jw_inT (jc_3 (List.mem_of_getElem? (i := 4) rfl)) rfl
set_option maxRecDepth 100000 in
theorem jt_485 : Cond.methodLink RX11 117 yX4_append ∈ jw_tbl := jw_inT (jc_3 (List.mem_of_getElem? (i := 5) rfl)) rfl
set_option maxRecDepth 100000 in
theorem jt_486 : Cond.instanceMethod yX4_append ∈ jw_tbl := jw_inT (jc_3 (List.mem_of_getElem? (i := 6) rfl)) rfl
set_option maxRecDepth 100000 in
theorem jt_487 : Cond.selects yX4_append.cls yX4_append yX4_append ∈ jw_tbl := jw_inT (jc_3 (List.mem_of_getElem? (i := 7) rfl)) rfl
set_option maxRecDepth 100000 in
theorem jt_488 : Cond.code yX4_append prog_6_method_3_code 5 (Option.some FieldType.int) ∈ jw_tbl := jw_inT (jc_3 (List.mem_of_getElem? (i := 8) rfl)) rfl
set_option maxRecDepth 100000 in
theorem jt_489 : Cond.methodLink RL 39 yX11_pavement ∈ jw_tbl := jw_inT (jc_3 (List.mem_of_getElem? (i := 9) rfl)) rfl
set_option maxRecDepth 100000 in
theorem jt_490 : Cond.instanceMethod yX11_pavement ∈ jw_tbl := jw_inT (jc_3 (List.mem_of_getElem? (i := 10) rfl)) rfl
set_option maxRecDepth 100000 in
theorem jt_491 : Cond.selects yX11_pavement.cls yX11_pavement yX11_pavement ∈ jw_tbl := jw_inT (jc_3 (List.mem_of_getElem? (i := 11) rfl)) rfl
set_option maxRecDepth 100000 in
theorem jt_492 : Cond.code yX11_pavement prog_1_method_7_code 3 (Option.some FieldType.long) ∈ jw_tbl := jw_inT (jc_3 (List.mem_of_getElem? (i := 12) rfl)) rfl
set_option maxRecDepth 100000 in
theorem jt_493 : Cond.methodLink RX11 121 yX4_readInto ∈ jw_tbl := jw_inT (jc_3 (List.mem_of_getElem? (i := 13) rfl)) rfl
set_option maxRecDepth 100000 in
theorem jt_494 : Cond.instanceMethod yX4_readInto ∈ jw_tbl := jw_inT (jc_3 (List.mem_of_getElem? (i := 14) rfl)) rfl
set_option maxRecDepth 100000 in
theorem jt_495 : Cond.selects yX4_readInto.cls yX4_readInto yX4_readInto ∈ jw_tbl := jw_inT (jc_3 (List.mem_of_getElem? (i := 15) rfl)) rfl
set_option maxRecDepth 100000 in
theorem jt_496 : Cond.code yX4_readInto prog_6_method_7_code 6 (Option.some FieldType.int) ∈ jw_tbl := jw_inT (jc_3 (List.mem_of_getElem? (i := 16) rfl)) rfl
set_option maxRecDepth 100000 in
theorem jt_497 : Cond.methodLink RX4 29 yX7_clear ∈ jw_tbl := jw_inT (jc_3 (List.mem_of_getElem? (i := 17) rfl)) rfl
set_option maxRecDepth 100000 in
theorem jt_498 : Cond.instanceMethod yX7_clear ∈ jw_tbl := jw_inT (jc_3 (List.mem_of_getElem? (i := 18) rfl)) rfl
set_option maxRecDepth 100000 in
theorem jt_499 : Cond.selects yX7_clear.cls yX7_clear yX7_clear ∈ jw_tbl := jw_inT (jc_3 (List.mem_of_getElem? (i := 19) rfl)) rfl
set_option maxRecDepth 100000 in
theorem jt_500 : Cond.code yX7_clear prog_9_method_2_code 1 (Option.none : Option FieldType) ∈ jw_tbl := jw_inT (jc_3 (List.mem_of_getElem? (i := 20) rfl)) rfl
set_option maxRecDepth 100000 in
theorem jt_501 : Cond.methodLink RX7 48 yX9_clear ∈ jw_tbl := jw_inT (jc_3 (List.mem_of_getElem? (i := 21) rfl)) rfl
set_option maxRecDepth 100000 in
theorem jt_502 : Cond.instanceMethod yX9_clear ∈ jw_tbl := jw_inT (jc_3 (List.mem_of_getElem? (i := 22) rfl)) rfl
set_option maxRecDepth 100000 in
theorem jt_503 : Cond.selects yX9_clear.cls yX9_clear yX9_clear ∈ jw_tbl := jw_inT (jc_3 (List.mem_of_getElem? (i := 23) rfl)) rfl
set_option maxRecDepth 100000 in
theorem jt_504 : Cond.code yX9_clear prog_11_method_2_code 1 (Option.none : Option FieldType) ∈ jw_tbl := jw_inT (jc_3 (List.mem_of_getElem? (i := 24) rfl)) rfl
set_option maxRecDepth 100000 in
theorem jt_505 : Cond.methodLink RX9 37 yJ7_fill_53178 ∈ jw_tbl := jw_inT (jc_3 (List.mem_of_getElem? (i := 25) rfl)) rfl
set_option maxRecDepth 100000 in
theorem jt_506 : Cond.methodLink RX9 43 yX9_setLaw ∈ jw_tbl := jw_inT (jc_3 (List.mem_of_getElem? (i := 26) rfl)) rfl
set_option maxRecDepth 100000 in
theorem jt_507 : Cond.instanceMethod yX9_setLaw ∈ jw_tbl := jw_inT (jc_3 (List.mem_of_getElem? (i := 27) rfl)) rfl
set_option maxRecDepth 100000 in
theorem jt_508 : Cond.selects yX9_setLaw.cls yX9_setLaw yX9_setLaw ∈ jw_tbl := jw_inT (jc_3 (List.mem_of_getElem? (i := 28) rfl)) rfl
set_option maxRecDepth 100000 in
theorem jt_509 : Cond.code yX9_setLaw prog_11_method_7_code 4 (Option.none : Option FieldType) ∈ jw_tbl := jw_inT (jc_3 (List.mem_of_getElem? (i := 29) rfl)) rfl
set_option maxRecDepth 100000 in
theorem jt_510 : Cond.methodLink RX7 51 yX10_clear ∈ jw_tbl := jw_inT (jc_3 (List.mem_of_getElem? (i := 30) rfl)) rfl
set_option maxRecDepth 100000 in
theorem jt_511 : Cond.instanceMethod yX10_clear ∈ jw_tbl := jw_inT (jc_3 (List.mem_of_getElem? (i := 31) rfl)) rfl
set_option maxRecDepth 100000 in
theorem jt_512 : Cond.selects yX10_clear.cls yX10_clear yX10_clear ∈ jw_tbl := jw_inT (jc_3 (List.mem_of_getElem? (i := 32) rfl)) rfl
set_option maxRecDepth 100000 in
theorem jt_513 : Cond.code yX10_clear prog_12_method_2_code 1 (Option.none : Option FieldType) ∈ jw_tbl := jw_inT (jc_3 (List.mem_of_getElem? (i := 33) rfl)) rfl
set_option maxRecDepth 100000 in
theorem jt_514 : Cond.methodLink RX7 52 yX3_begin ∈ jw_tbl := jw_inT (jc_3 (List.mem_of_getElem? (i := 34) rfl)) rfl
set_option maxRecDepth 100000 in
theorem jt_515 : Cond.instanceMethod yX3_begin ∈ jw_tbl := jw_inT (jc_3 (List.mem_of_getElem? (i := 35) rfl)) rfl
set_option maxRecDepth 100000 in
theorem jt_516 : Cond.selects yX3_begin.cls yX3_begin yX3_begin ∈ jw_tbl := jw_inT (jc_3 (List.mem_of_getElem? (i := 36) rfl)) rfl
set_option maxRecDepth 100000 in
theorem jt_517 : Cond.code yX3_begin prog_5_method_2_code 2 (Option.none : Option FieldType) ∈ jw_tbl := jw_inT (jc_3 (List.mem_of_getElem? (i := 37) rfl)) rfl
set_option maxRecDepth 100000 in
theorem jt_518 : Cond.constant RX3 35 (1000000 : Int32) ∈ jw_tbl := jw_inT (jc_3 (List.mem_of_getElem? (i := 38) rfl)) rfl
set_option maxRecDepth 100000 in
theorem jt_519 : Cond.methodLink RX3 36 yJ7_fill_53178 ∈ jw_tbl := jw_inT (jc_3 (List.mem_of_getElem? (i := 39) rfl)) rfl
set_option maxRecDepth 100000 in
theorem jt_520 : Cond.methodLink RX7 56 yX1_clear ∈ jw_tbl := jw_inT (jc_3 (List.mem_of_getElem? (i := 40) rfl)) rfl
set_option maxRecDepth 100000 in
theorem jt_521 : Cond.instanceMethod yX1_clear ∈ jw_tbl := jw_inT (jc_3 (List.mem_of_getElem? (i := 41) rfl)) rfl
set_option maxRecDepth 100000 in
theorem jt_522 : Cond.selects yX1_clear.cls yX1_clear yX1_clear ∈ jw_tbl := jw_inT (jc_3 (List.mem_of_getElem? (i := 42) rfl)) rfl
set_option maxRecDepth 100000 in
theorem jt_523 : Cond.code yX1_clear prog_3_method_2_code 1 (Option.none : Option FieldType) ∈ jw_tbl := jw_inT (jc_3 (List.mem_of_getElem? (i := 43) rfl)) rfl
set_option maxRecDepth 100000 in
theorem jt_524 : Cond.methodLink RX1 22 yJ7_fill_53178 ∈ jw_tbl := jw_inT (jc_3 (List.mem_of_getElem? (i := 44) rfl)) rfl
set_option maxRecDepth 100000 in
theorem jt_525 : Cond.methodLink RX7 57 yX2_clear ∈ jw_tbl := jw_inT (jc_3 (List.mem_of_getElem? (i := 45) rfl)) rfl
set_option maxRecDepth 100000 in
theorem jt_526 : Cond.instanceMethod yX2_clear ∈ jw_tbl := jw_inT (jc_3 (List.mem_of_getElem? (i := 46) rfl)) rfl
set_option maxRecDepth 100000 in
theorem jt_527 : Cond.selects yX2_clear.cls yX2_clear yX2_clear ∈ jw_tbl := jw_inT (jc_3 (List.mem_of_getElem? (i := 47) rfl)) rfl
set_option maxRecDepth 100000 in
theorem jt_528 : Cond.code yX2_clear prog_4_method_2_code 1 (Option.none : Option FieldType) ∈ jw_tbl := jw_inT (jc_3 (List.mem_of_getElem? (i := 48) rfl)) rfl
set_option maxRecDepth 100000 in
theorem jt_529 : Cond.methodLink RX2 18 yJ7_fill_53178 ∈ jw_tbl := jw_inT (jc_3 (List.mem_of_getElem? (i := 49) rfl)) rfl
set_option maxRecDepth 100000 in
theorem jt_530 : Cond.methodLink RX4 34 yJ7_fill_53178 ∈ jw_tbl := jw_inT (jc_3 (List.mem_of_getElem? (i := 50) rfl)) rfl
set_option maxRecDepth 100000 in
theorem jt_531 : Cond.methodLink RX4 43 yX4_nextToken ∈ jw_tbl := jw_inT (jc_3 (List.mem_of_getElem? (i := 51) rfl)) rfl
set_option maxRecDepth 100000 in
theorem jt_533 : Cond.instanceMethod yX4_nextToken ∈ jw_tbl := jw_inT (jc_3 (List.mem_of_getElem? (i := 53) rfl)) rfl
set_option maxRecDepth 100000 in
theorem jt_534 : Cond.code yX4_nextToken prog_6_method_12_code 2 (Option.none : Option FieldType) ∈ jw_tbl := jw_inT (jc_3 (List.mem_of_getElem? (i := 54) rfl)) rfl
set_option maxRecDepth 100000 in
theorem jt_535 : Cond.methodLink RX4 126 yX4_isLetter ∈ jw_tbl := jw_inT (jc_3 (List.mem_of_getElem? (i := 55) rfl)) rfl
set_option maxRecDepth 100000 in
theorem jt_536 : Cond.static yX4_isLetter ∈ jw_tbl := jw_inT (jc_3 (List.mem_of_getElem? (i := 56) rfl)) rfl
set_option maxRecDepth 100000 in
theorem jt_537 : Cond.code yX4_isLetter prog_6_method_15_code 1 (Option.some FieldType.boolean) ∈ jw_tbl := jw_inT (jc_3 (List.mem_of_getElem? (i := 57) rfl)) rfl
set_option maxRecDepth 100000 in
theorem jt_538 : Cond.methodLink RX4 130 yX4_endOfName ∈ jw_tbl := jw_inT (jc_3 (List.mem_of_getElem? (i := 58) rfl)) rfl
set_option maxRecDepth 100000 in
theorem jt_540 : Cond.instanceMethod yX4_endOfName ∈ jw_tbl := jw_inT (jc_3 (List.mem_of_getElem? (i := 60) rfl)) rfl
set_option maxRecDepth 100000 in
theorem jt_541 : Cond.code yX4_endOfName prog_6_method_13_code 3 (Option.some FieldType.int) ∈ jw_tbl := jw_inT (jc_3 (List.mem_of_getElem? (i := 61) rfl)) rfl
set_option maxRecDepth 100000 in
theorem jt_542 : Cond.methodLink RX4 134 yX4_isFigure ∈ jw_tbl := jw_inT (jc_3 (List.mem_of_getElem? (i := 62) rfl)) rfl
set_option maxRecDepth 100000 in
theorem jt_543 : Cond.static yX4_isFigure ∈ jw_tbl := jw_inT (jc_3 (List.mem_of_getElem? (i := 63) rfl)) rfl
set_option maxRecDepth 100000 in
theorem jt_544 : Cond.code yX4_isFigure prog_6_method_16_code 1 (Option.some FieldType.boolean) ∈ jw_tbl := jw_inT (jc_3 (List.mem_of_getElem? (i := 64) rfl)) rfl
set_option maxRecDepth 100000 in
theorem jt_545 : Cond.methodLink RX4 137 yX4_takeNumber ∈ jw_tbl := jw_inT (jc_3 (List.mem_of_getElem? (i := 65) rfl)) rfl
set_option maxRecDepth 100000 in
theorem jt_547 : Cond.instanceMethod yX4_takeNumber ∈ jw_tbl := jw_inT (jc_3 (List.mem_of_getElem? (i := 67) rfl)) rfl
set_option maxRecDepth 100000 in
theorem jt_548 : Cond.code yX4_takeNumber prog_6_method_14_code 3 (Option.none : Option FieldType) ∈ jw_tbl := jw_inT (jc_3 (List.mem_of_getElem? (i := 68) rfl)) rfl
set_option maxRecDepth 100000 in
theorem jt_549 : Cond.methodLink RX4 53 yX9_measure ∈ jw_tbl := jw_inT (jc_3 (List.mem_of_getElem? (i := 69) rfl)) rfl
set_option maxRecDepth 100000 in
theorem jt_550 : Cond.instanceMethod yX9_measure ∈ jw_tbl := jw_inT (jc_3 (List.mem_of_getElem? (i := 70) rfl)) rfl
set_option maxRecDepth 100000 in
theorem jt_551 : Cond.selects yX9_measure.cls yX9_measure yX9_measure ∈ jw_tbl := jw_inT (jc_3 (List.mem_of_getElem? (i := 71) rfl)) rfl
set_option maxRecDepth 100000 in
theorem jt_552 : Cond.code yX9_measure prog_11_method_12_code 5 (Option.none : Option FieldType) ∈ jw_tbl := jw_inT (jc_3 (List.mem_of_getElem? (i := 72) rfl)) rfl
set_option maxRecDepth 100000 in
theorem jt_553 : Cond.constant RX9 71 (1000000 : Int32) ∈ jw_tbl := jw_inT (jc_3 (List.mem_of_getElem? (i := 73) rfl)) rfl
set_option maxRecDepth 100000 in
theorem jt_554 : Cond.methodLink RX9 72 yX9_minutesToPass ∈ jw_tbl := jw_inT (jc_3 (List.mem_of_getElem? (i := 74) rfl)) rfl
set_option maxRecDepth 100000 in
theorem jt_556 : Cond.instanceMethod yX9_minutesToPass ∈ jw_tbl := jw_inT (jc_3 (List.mem_of_getElem? (i := 76) rfl)) rfl
set_option maxRecDepth 100000 in
theorem jt_557 : Cond.code yX9_minutesToPass prog_11_method_13_code 2 (Option.some FieldType.int) ∈ jw_tbl := jw_inT (jc_3 (List.mem_of_getElem? (i := 77) rfl)) rfl
set_option maxRecDepth 100000 in
theorem jt_558 : Cond.methodLink RX9 76 yX9_shorten ∈ jw_tbl := jw_inT (jc_3 (List.mem_of_getElem? (i := 78) rfl)) rfl
set_option maxRecDepth 100000 in
theorem jt_560 : Cond.instanceMethod yX9_shorten ∈ jw_tbl := jw_inT (jc_3 (List.mem_of_getElem? (i := 80) rfl)) rfl
set_option maxRecDepth 100000 in
theorem jt_561 : Cond.code yX9_shorten prog_11_method_14_code 6 (Option.none : Option FieldType) ∈ jw_tbl := jw_inT (jc_3 (List.mem_of_getElem? (i := 81) rfl)) rfl
set_option maxRecDepth 100000 in
theorem jt_562 : Cond.methodLink RX4 62 yX4_wordHere ∈ jw_tbl := jw_inT (jc_3 (List.mem_of_getElem? (i := 82) rfl)) rfl
set_option maxRecDepth 100000 in
theorem jt_564 : Cond.instanceMethod yX4_wordHere ∈ jw_tbl := jw_inT (jc_3 (List.mem_of_getElem? (i := 84) rfl)) rfl
set_option maxRecDepth 100000 in
theorem jt_565 : Cond.code yX4_wordHere prog_6_method_17_code 2 (Option.some FieldType.int) ∈ jw_tbl := jw_inT (jc_3 (List.mem_of_getElem? (i := 85) rfl)) rfl
set_option maxRecDepth 100000 in
theorem jt_566 : Cond.methodLink RX4 140 yX4_spelling ∈ jw_tbl := jw_inT (jc_3 (List.mem_of_getElem? (i := 86) rfl)) rfl
set_option maxRecDepth 100000 in
theorem jt_567 : Cond.static yX4_spelling ∈ jw_tbl := jw_inT (jc_3 (List.mem_of_getElem? (i := 87) rfl)) rfl
set_option maxRecDepth 100000 in
theorem jt_568 : Cond.code yX4_spelling prog_6_method_19_code 1 (Option.some (FieldType.object "java/lang/String")) ∈ jw_tbl := jw_inT (jc_3 (List.mem_of_getElem? (i := 88) rfl)) rfl
set_option maxRecDepth 100000 in
theorem jt_576 : Cond.methodLink RX4 144 yX4_spells ∈ jw_tbl := jw_inT (jc_3 (List.mem_of_getElem? (i := 96) rfl)) rfl
set_option maxRecDepth 100000 in
theorem jt_578 : Cond.instanceMethod yX4_spells ∈ jw_tbl := jw_inT (jc_3 (List.mem_of_getElem? (i := 98) rfl)) rfl
set_option maxRecDepth 100000 in
theorem jt_579 : Cond.code yX4_spells prog_6_method_18_code 3 (Option.some FieldType.boolean) ∈ jw_tbl := jw_inT (jc_3 (List.mem_of_getElem? (i := 99) rfl)) rfl
set_option maxRecDepth 100000 in
theorem jt_580 : Cond.methodLink RX4 148 yJ0_length_8abf5 ∈ jw_tbl := jw_inT (jc_3 (List.mem_of_getElem? (i := 100) rfl)) rfl
set_option maxRecDepth 100000 in
theorem jt_581 : Cond.instanceMethod yJ0_length_8abf5 ∈ jw_tbl := jw_inT (jc_3 (List.mem_of_getElem? (i := 101) rfl)) rfl
set_option maxRecDepth 100000 in
theorem jt_582 : Cond.selects yJ0_length_8abf5.cls yJ0_length_8abf5 yJ0_length_8abf5 ∈ jw_tbl := jw_inT (jc_3 (List.mem_of_getElem? (i := 102) rfl)) rfl
set_option maxRecDepth 100000 in
theorem jt_583 : Cond.code yJ0_length_8abf5 prog_17_method_54_code 1 (Option.some FieldType.int) ∈ jw_tbl := jw_inT (jc_3 (List.mem_of_getElem? (i := 103) rfl)) rfl
set_option maxRecDepth 100000 in
theorem jt_584 : Cond.methodLink RJ0 335 yJ0_coder_7d493 ∈ jw_tbl := jw_inT (jc_3 (List.mem_of_getElem? (i := 104) rfl)) rfl
set_option maxRecDepth 100000 in
theorem jt_585 : Cond.instanceMethod yJ0_coder_7d493 ∈ jw_tbl := jw_inT (jc_3 (List.mem_of_getElem? (i := 105) rfl)) rfl
set_option maxRecDepth 100000 in
theorem jt_586 : Cond.selects yJ0_coder_7d493.cls yJ0_coder_7d493 yJ0_coder_7d493 ∈ jw_tbl := jw_inT (jc_3 (List.mem_of_getElem? (i := 106) rfl)) rfl
set_option maxRecDepth 100000 in
theorem jt_587 : Cond.code yJ0_coder_7d493 prog_17_method_152_code 1 (Option.some FieldType.byte) ∈ jw_tbl := jw_inT (jc_3 (List.mem_of_getElem? (i := 107) rfl)) rfl
set_option maxRecDepth 100000 in
theorem jt_588 : Cond.fieldLink RJ0 38 "java/lang/String" "COMPACT_STRINGS" "Z" ∈ jw_tbl := jw_inT (jc_3 (List.mem_of_getElem? (i := 108) rfl)) rfl
set_option maxRecDepth 100000 in
theorem jt_590 : Cond.methodLink RX4 152 yJ0_charAt_5068e ∈ jw_tbl := jw_inT (jc_3 (List.mem_of_getElem? (i := 110) rfl)) rfl
set_option maxRecDepth 100000 in
theorem jt_591 : Cond.instanceMethod yJ0_charAt_5068e ∈ jw_tbl := jw_inT (jc_3 (List.mem_of_getElem? (i := 111) rfl)) rfl
set_option maxRecDepth 100000 in
theorem jt_592 : Cond.selects yJ0_charAt_5068e.cls yJ0_charAt_5068e yJ0_charAt_5068e ∈ jw_tbl := jw_inT (jc_3 (List.mem_of_getElem? (i := 112) rfl)) rfl
set_option maxRecDepth 100000 in
theorem jt_593 : Cond.code yJ0_charAt_5068e prog_17_method_56_code 2 (Option.some FieldType.char) ∈ jw_tbl := jw_inT (jc_3 (List.mem_of_getElem? (i := 113) rfl)) rfl
set_option maxRecDepth 100000 in
theorem jt_594 : Cond.methodLink RJ0 492 yJ0_isLatin1_aae02 ∈ jw_tbl := jw_inT (jc_3 (List.mem_of_getElem? (i := 114) rfl)) rfl
set_option maxRecDepth 100000 in
theorem jt_595 : Cond.instanceMethod yJ0_isLatin1_aae02 ∈ jw_tbl := jw_inT (jc_3 (List.mem_of_getElem? (i := 115) rfl)) rfl
set_option maxRecDepth 100000 in
theorem jt_596 : Cond.selects yJ0_isLatin1_aae02.cls yJ0_isLatin1_aae02 yJ0_isLatin1_aae02 ∈ jw_tbl := jw_inT (jc_3 (List.mem_of_getElem? (i := 116) rfl)) rfl
set_option maxRecDepth 100000 in
theorem jt_597 : Cond.code yJ0_isLatin1_aae02 prog_17_method_154_code 1 (Option.some FieldType.boolean) ∈ jw_tbl := jw_inT (jc_3 (List.mem_of_getElem? (i := 117) rfl)) rfl
set_option maxRecDepth 100000 in
theorem jt_598 : Cond.methodLink RJ0 495 yJ1_charAt_3b067 ∈ jw_tbl := jw_inT (jc_3 (List.mem_of_getElem? (i := 118) rfl)) rfl
set_option maxRecDepth 100000 in
theorem jt_599 : Cond.static yJ1_charAt_3b067 ∈ jw_tbl := jw_inT (jc_3 (List.mem_of_getElem? (i := 119) rfl)) rfl
set_option maxRecDepth 100000 in
theorem jt_600 : Cond.code yJ1_charAt_3b067 prog_18_method_2_code 2 (Option.some FieldType.char) ∈ jw_tbl := jw_inT (jc_3 (List.mem_of_getElem? (i := 120) rfl)) rfl
set_option maxRecDepth 100000 in
theorem jt_601 : Cond.methodLink RJ1 9 yJ0_checkIndex_df160 ∈ jw_tbl := jw_inT (jc_3 (List.mem_of_getElem? (i := 121) rfl)) rfl
set_option maxRecDepth 100000 in
theorem jt_602 : Cond.static yJ0_checkIndex_df160 ∈ jw_tbl := jw_inT (jc_3 (List.mem_of_getElem? (i := 122) rfl)) rfl
set_option maxRecDepth 100000 in
theorem jt_603 : Cond.code yJ0_checkIndex_df160 prog_17_method_155_code 2 (Option.none : Option FieldType) ∈ jw_tbl := jw_inT (jc_3 (List.mem_of_getElem? (i := 123) rfl)) rfl
set_option maxRecDepth 100000 in
theorem jt_604 : Cond.fieldLink RJ0 1053 "jdk/internal/util/Preconditions" "SIOOBE_FORMATTER" "Ljava/util/function/BiFunction;" ∈ jw_tbl := jw_inT (jc_3 (List.mem_of_getElem? (i := 124) rfl)) rfl
set_option maxRecDepth 100000 in
theorem jt_606 : Cond.methodLink RJ0 1059 yJ3_checkIndex_8e157 ∈ jw_tbl := jw_inT (jc_3 (List.mem_of_getElem? (i := 126) rfl)) rfl
set_option maxRecDepth 100000 in
theorem jt_607 : Cond.static yJ3_checkIndex_8e157 ∈ jw_tbl := jw_inT (jc_3 (List.mem_of_getElem? (i := 127) rfl)) rfl
set_option maxRecDepth 100000 in
theorem jt_608 : Cond.code yJ3_checkIndex_8e157 prog_22_method_11_code 3 (Option.some FieldType.int) ∈ jw_tbl := jw_inT (jc_3 (List.mem_of_getElem? (i := 128) rfl)) rfl
set_option maxRecDepth 100000 in
theorem jt_609 : Cond.methodLink RJ0 498 yJ2_charAt_3b067 ∈ jw_tbl := jw_inT (jc_3 (List.mem_of_getElem? (i := 129) rfl)) rfl
set_option maxRecDepth 100000 in
theorem jt_610 : Cond.static yJ2_charAt_3b067 ∈ jw_tbl := jw_inT (jc_3 (List.mem_of_getElem? (i := 130) rfl)) rfl
set_option maxRecDepth 100000 in
theorem jt_611 : Cond.code yJ2_charAt_3b067 prog_19_method_83_code 2 (Option.some FieldType.char) ∈ jw_tbl := jw_inT (jc_3 (List.mem_of_getElem? (i := 131) rfl)) rfl
set_option maxRecDepth 100000 in
theorem jt_612 : Cond.methodLink RJ2 67 yJ2_checkIndex_2214a ∈ jw_tbl := jw_inT (jc_3 (List.mem_of_getElem? (i := 132) rfl)) rfl
set_option maxRecDepth 100000 in
theorem jt_613 : Cond.static yJ2_checkIndex_2214a ∈ jw_tbl := jw_inT (jc_3 (List.mem_of_getElem? (i := 133) rfl)) rfl
set_option maxRecDepth 100000 in
theorem jt_614 : Cond.code yJ2_checkIndex_2214a prog_19_method_91_code 2 (Option.none : Option FieldType) ∈ jw_tbl := jw_inT (jc_3 (List.mem_of_getElem? (i := 134) rfl)) rfl
set_option maxRecDepth 100000 in
theorem jt_615 : Cond.methodLink RJ2 48 yJ2_length_9d52b ∈ jw_tbl := jw_inT (jc_3 (List.mem_of_getElem? (i := 135) rfl)) rfl
set_option maxRecDepth 100000 in
theorem jt_616 : Cond.static yJ2_length_9d52b ∈ jw_tbl := jw_inT (jc_3 (List.mem_of_getElem? (i := 136) rfl)) rfl
set_option maxRecDepth 100000 in
theorem jt_617 : Cond.code yJ2_length_9d52b prog_19_method_6_code 1 (Option.some FieldType.int) ∈ jw_tbl := jw_inT (jc_3 (List.mem_of_getElem? (i := 137) rfl)) rfl
set_option maxRecDepth 100000 in
theorem jt_618 : Cond.methodLink RJ2 414 yJ0_checkIndex_df160 ∈ jw_tbl := jw_inT (jc_3 (List.mem_of_getElem? (i := 138) rfl)) rfl
set_option maxRecDepth 100000 in
theorem jt_619 : Cond.methodLink RJ2 71 yJ2_getChar_3b067 ∈ jw_tbl := jw_inT (jc_3 (List.mem_of_getElem? (i := 139) rfl)) rfl
set_option maxRecDepth 100000 in
theorem jt_620 : Cond.static yJ2_getChar_3b067 ∈ jw_tbl := jw_inT (jc_3 (List.mem_of_getElem? (i := 140) rfl)) rfl
set_option maxRecDepth 100000 in
theorem jt_621 : Cond.code yJ2_getChar_3b067 prog_19_method_5_code 2 (Option.some FieldType.char) ∈ jw_tbl := jw_inT (jc_3 (List.mem_of_getElem? (i := 141) rfl)) rfl
set_option maxRecDepth 100000 in
theorem jt_622 : Cond.fieldLink RJ2 44 "java/lang/StringUTF16" "$assertionsDisabled" "Z" ∈ jw_tbl := jw_inT (jc_3 (List.mem_of_getElem? (i := 142) rfl)) rfl
set_option maxRecDepth 100000 in
theorem jt_624 : Cond.fieldLink RJ2 59 "java/lang/StringUTF16" "HI_BYTE_SHIFT" "I" ∈ jw_tbl := jw_inT (jc_3 (List.mem_of_getElem? (i := 144) rfl)) rfl
set_option maxRecDepth 100000 in
theorem jt_626 : Cond.fieldLink RJ2 63 "java/lang/StringUTF16" "LO_BYTE_SHIFT" "I" ∈ jw_tbl := jw_inT (jc_3 (List.mem_of_getElem? (i := 146) rfl)) rfl
set_option maxRecDepth 100000 in
theorem jt_628 : Cond.methodLink RX4 66 yX4_statement ∈ jw_tbl := jw_inT (jc_3 (List.mem_of_getElem? (i := 148) rfl)) rfl
set_option maxRecDepth 100000 in
theorem jt_630 : Cond.instanceMethod yX4_statement ∈ jw_tbl := jw_inT (jc_3 (List.mem_of_getElem? (i := 150) rfl)) rfl
set_option maxRecDepth 100000 in
theorem jt_631 : Cond.code yX4_statement prog_6_method_8_code 5 (Option.some FieldType.int) ∈ jw_tbl := jw_inT (jc_3 (List.mem_of_getElem? (i := 151) rfl)) rfl
set_option maxRecDepth 100000 in
theorem jt_632 : Cond.methodLink RX4 70 yX4_mayFollow ∈ jw_tbl := jw_inT (jc_3 (List.mem_of_getElem? (i := 152) rfl)) rfl
set_option maxRecDepth 100000 in
theorem jt_633 : Cond.static yX4_mayFollow ∈ jw_tbl := jw_inT (jc_3 (List.mem_of_getElem? (i := 153) rfl)) rfl
set_option maxRecDepth 100000 in
theorem jt_634 : Cond.code yX4_mayFollow prog_6_method_9_code 2 (Option.some FieldType.boolean) ∈ jw_tbl := jw_inT (jc_3 (List.mem_of_getElem? (i := 154) rfl)) rfl
set_option maxRecDepth 100000 in
theorem jt_635 : Cond.fieldLink RX4 74 "StringsSheet$Reader" "ROOM" "[I" ∈ jw_tbl := jw_inT (jc_3 (List.mem_of_getElem? (i := 155) rfl)) rfl
set_option maxRecDepth 100000 in
theorem jt_637 : Cond.fieldLink RX4 77 "StringsSheet$Reader" "NUMBERS" "[I" ∈ jw_tbl := jw_inT (jc_3 (List.mem_of_getElem? (i := 157) rfl)) rfl
set_option maxRecDepth 100000 in
theorem jt_639 : Cond.methodLink RX4 80 yX4_isAsTold ∈ jw_tbl := jw_inT (jc_3 (List.mem_of_getElem? (i := 159) rfl)) rfl
set_option maxRecDepth 100000 in
theorem jt_641 : Cond.instanceMethod yX4_isAsTold ∈ jw_tbl := jw_inT (jc_3 (List.mem_of_getElem? (i := 161) rfl)) rfl
set_option maxRecDepth 100000 in
theorem jt_642 : Cond.code yX4_isAsTold prog_6_method_10_code 5 (Option.some FieldType.boolean) ∈ jw_tbl := jw_inT (jc_3 (List.mem_of_getElem? (i := 162) rfl)) rfl
set_option maxRecDepth 100000 in
theorem jt_643 : Cond.fieldLink RX4 90 "StringsSheet$Reader" "HIGHEST" "[I" ∈ jw_tbl := jw_inT (jc_3 (List.mem_of_getElem? (i := 163) rfl)) rfl
set_option maxRecDepth 100000 in
theorem jt_645 : Cond.fieldLink RX4 93 "StringsSheet$Reader" "LOWEST" "[I" ∈ jw_tbl := jw_inT (jc_3 (List.mem_of_getElem? (i := 165) rfl)) rfl
set_option maxRecDepth 100000 in
theorem jt_647 : Cond.methodLink RX4 86 yX4_take ∈ jw_tbl := jw_inT (jc_3 (List.mem_of_getElem? (i := 167) rfl)) rfl
set_option maxRecDepth 100000 in
theorem jt_649 : Cond.instanceMethod yX4_take ∈ jw_tbl := jw_inT (jc_3 (List.mem_of_getElem? (i := 169) rfl)) rfl
set_option maxRecDepth 100000 in
theorem jt_650 : Cond.code yX4_take prog_6_method_11_code 3 (Option.none : Option FieldType) ∈ jw_tbl := jw_inT (jc_3 (List.mem_of_getElem? (i := 170) rfl)) rfl
set_option maxRecDepth 100000 in
theorem jt_651 : Cond.methodLink RX4 96 yX9_addCorner ∈ jw_tbl := jw_inT (jc_3 (List.mem_of_getElem? (i := 171) rfl)) rfl
set_option maxRecDepth 100000 in
theorem jt_652 : Cond.instanceMethod yX9_addCorner ∈ jw_tbl := jw_inT (jc_3 (List.mem_of_getElem? (i := 172) rfl)) rfl
set_option maxRecDepth 100000 in
theorem jt_653 : Cond.selects yX9_addCorner.cls yX9_addCorner yX9_addCorner ∈ jw_tbl := jw_inT (jc_3 (List.mem_of_getElem? (i := 173) rfl)) rfl
set_option maxRecDepth 100000 in
theorem jt_654 : Cond.code yX9_addCorner prog_11_method_4_code 2 (Option.none : Option FieldType) ∈ jw_tbl := jw_inT (jc_3 (List.mem_of_getElem? (i := 174) rfl)) rfl
set_option maxRecDepth 100000 in
theorem jt_655 : Cond.methodLink RX4 100 yX9_addStreet ∈ jw_tbl := jw_inT (jc_3 (List.mem_of_getElem? (i := 175) rfl)) rfl
set_option maxRecDepth 100000 in
theorem jt_656 : Cond.instanceMethod yX9_addStreet ∈ jw_tbl := jw_inT (jc_3 (List.mem_of_getElem? (i := 176) rfl)) rfl
set_option maxRecDepth 100000 in
theorem jt_657 : Cond.selects yX9_addStreet.cls yX9_addStreet yX9_addStreet ∈ jw_tbl := jw_inT (jc_3 (List.mem_of_getElem? (i := 177) rfl)) rfl
set_option maxRecDepth 100000 in
theorem jt_658 : Cond.code yX9_addStreet prog_11_method_5_code 6 (Option.none : Option FieldType) ∈ jw_tbl := jw_inT (jc_3 (List.mem_of_getElem? (i := 178) rfl)) rfl
set_option maxRecDepth 100000 in
theorem jt_659 : Cond.methodLink RX9 62 yX9_streetTo ∈ jw_tbl := jw_inT (jc_3 (List.mem_of_getElem? (i := 179) rfl)) rfl
set_option maxRecDepth 100000 in
theorem jt_660 : Cond.instanceMethod yX9_streetTo ∈ jw_tbl := jw_inT (jc_3 (List.mem_of_getElem? (i := 180) rfl)) rfl
set_option maxRecDepth 100000 in
theorem jt_661 : Cond.selects yX9_streetTo.cls yX9_streetTo yX9_streetTo ∈ jw_tbl := jw_inT (jc_3 (List.mem_of_getElem? (i := 181) rfl)) rfl
set_option maxRecDepth 100000 in
theorem jt_662 : Cond.code yX9_streetTo prog_11_method_9_code 3 (Option.some FieldType.int) ∈ jw_tbl := jw_inT (jc_3 (List.mem_of_getElem? (i := 182) rfl)) rfl
set_option maxRecDepth 100000 in
theorem jt_663 : Cond.methodLink RX9 66 yJ9_min_7cf53 ∈ jw_tbl := jw_inT (jc_3 (List.mem_of_getElem? (i := 183) rfl)) rfl
set_option maxRecDepth 100000 in
theorem jt_664 : Cond.static yJ9_min_7cf53 ∈ jw_tbl := jw_inT (jc_3 (List.mem_of_getElem? (i := 184) rfl)) rfl
set_option maxRecDepth 100000 in
theorem jt_665 : Cond.code yJ9_min_7cf53 prog_16_method_69_code 2 (Option.some FieldType.int) ∈ jw_tbl := jw_inT (jc_3 (List.mem_of_getElem? (i := 185) rfl)) rfl
set_option maxRecDepth 100000 in
theorem jt_666 : Cond.methodLink RX4 108 yX10_addGoods ∈ jw_tbl := jw_inT (jc_3 (List.mem_of_getElem? (i := 186) rfl)) rfl
set_option maxRecDepth 100000 in
theorem jt_667 : Cond.instanceMethod yX10_addGoods ∈ jw_tbl := jw_inT (jc_3 (List.mem_of_getElem? (i := 187) rfl)) rfl
set_option maxRecDepth 100000 in
theorem jt_668 : Cond.selects yX10_addGoods.cls yX10_addGoods yX10_addGoods ∈ jw_tbl := jw_inT (jc_3 (List.mem_of_getElem? (i := 188) rfl)) rfl
set_option maxRecDepth 100000 in
theorem jt_669 : Cond.code yX10_addGoods prog_12_method_4_code 4 (Option.none : Option FieldType) ∈ jw_tbl := jw_inT (jc_3 (List.mem_of_getElem? (i := 189) rfl)) rfl
set_option maxRecDepth 100000 in
theorem jt_670 : Cond.methodLink RX4 113 yX10_addSeller ∈ jw_tbl := jw_inT (jc_3 (List.mem_of_getElem? (i := 190) rfl)) rfl
set_option maxRecDepth 100000 in
theorem jt_671 : Cond.instanceMethod yX10_addSeller ∈ jw_tbl := jw_inT (jc_3 (List.mem_of_getElem? (i := 191) rfl)) rfl
set_option maxRecDepth 100000 in
theorem jt_672 : Cond.selects yX10_addSeller.cls yX10_addSeller yX10_addSeller ∈ jw_tbl := jw_inT (jc_3 (List.mem_of_getElem? (i := 192) rfl)) rfl
set_option maxRecDepth 100000 in
theorem jt_673 : Cond.code yX10_addSeller prog_12_method_5_code 3 (Option.none : Option FieldType) ∈ jw_tbl := jw_inT (jc_3 (List.mem_of_getElem? (i := 193) rfl)) rfl
set_option maxRecDepth 100000 in
theorem jt_674 : Cond.methodLink RX4 117 yX10_addWatcher ∈ jw_tbl := jw_inT (jc_3 (List.mem_of_getElem? (i := 194) rfl)) rfl
set_option maxRecDepth 100000 in
theorem jt_675 : Cond.instanceMethod yX10_addWatcher ∈ jw_tbl := jw_inT (jc_3 (List.mem_of_getElem? (i := 195) rfl)) rfl
set_option maxRecDepth 100000 in
theorem jt_676 : Cond.selects yX10_addWatcher.cls yX10_addWatcher yX10_addWatcher ∈ jw_tbl := jw_inT (jc_3 (List.mem_of_getElem? (i := 196) rfl)) rfl
set_option maxRecDepth 100000 in
theorem jt_677 : Cond.code yX10_addWatcher prog_12_method_6_code 2 (Option.none : Option FieldType) ∈ jw_tbl := jw_inT (jc_3 (List.mem_of_getElem? (i := 197) rfl)) rfl
set_option maxRecDepth 100000 in
theorem jt_678 : Cond.methodLink RX4 120 yX9_addCellar ∈ jw_tbl := jw_inT (jc_3 (List.mem_of_getElem? (i := 198) rfl)) rfl
set_option maxRecDepth 100000 in
theorem jt_679 : Cond.instanceMethod yX9_addCellar ∈ jw_tbl := jw_inT (jc_3 (List.mem_of_getElem? (i := 199) rfl)) rfl
set_option maxRecDepth 100000 in
theorem jt_680 : Cond.selects yX9_addCellar.cls yX9_addCellar yX9_addCellar ∈ jw_tbl := jw_inT (jc_3 (List.mem_of_getElem? (i := 200) rfl)) rfl
set_option maxRecDepth 100000 in
theorem jt_681 : Cond.code yX9_addCellar prog_11_method_6_code 3 (Option.none : Option FieldType) ∈ jw_tbl := jw_inT (jc_3 (List.mem_of_getElem? (i := 201) rfl)) rfl
set_option maxRecDepth 100000 in
theorem jt_682 : Cond.methodLink RX4 123 yX9_setLaw ∈ jw_tbl := jw_inT (jc_3 (List.mem_of_getElem? (i := 202) rfl)) rfl
set_option maxRecDepth 100000 in
theorem jt_683 : Cond.methodLink RX11 125 yX4_place ∈ jw_tbl := jw_inT (jc_3 (List.mem_of_getElem? (i := 203) rfl)) rfl
set_option maxRecDepth 100000 in
theorem jt_684 : Cond.instanceMethod yX4_place ∈ jw_tbl := jw_inT (jc_3 (List.mem_of_getElem? (i := 204) rfl)) rfl
set_option maxRecDepth 100000 in
theorem jt_685 : Cond.selects yX4_place.cls yX4_place yX4_place ∈ jw_tbl := jw_inT (jc_3 (List.mem_of_getElem? (i := 205) rfl)) rfl
set_option maxRecDepth 100000 in
theorem jt_686 : Cond.code yX4_place prog_6_method_5_code 1 (Option.some FieldType.int) ∈ jw_tbl := jw_inT (jc_3 (List.mem_of_getElem? (i := 206) rfl)) rfl
set_option maxRecDepth 100000 in
theorem jt_687 : Cond.methodLink RX11 129 yX4_empty ∈ jw_tbl := jw_inT (jc_3 (List.mem_of_getElem? (i := 207) rfl)) rfl
set_option maxRecDepth 100000 in
theorem jt_688 : Cond.instanceMethod yX4_empty ∈ jw_tbl := jw_inT (jc_3 (List.mem_of_getElem? (i := 208) rfl)) rfl
set_option maxRecDepth 100000 in
theorem jt_689 : Cond.selects yX4_empty.cls yX4_empty yX4_empty ∈ jw_tbl := jw_inT (jc_3 (List.mem_of_getElem? (i := 209) rfl)) rfl
set_option maxRecDepth 100000 in
theorem jt_690 : Cond.code yX4_empty prog_6_method_6_code 1 (Option.none : Option FieldType) ∈ jw_tbl := jw_inT (jc_3 (List.mem_of_getElem? (i := 210) rfl)) rfl
set_option maxRecDepth 100000 in
theorem jt_691 : Cond.constantLong RX11 132 (-9000000000000000100 : Int64) ∈ jw_tbl := jw_inT (jc_3 (List.mem_of_getElem? (i := 211) rfl)) rfl
set_option maxRecDepth 100000 in
theorem jt_692 : Cond.methodLink RX11 134 yX7_takeFrom ∈ jw_tbl := jw_inT (jc_3 (List.mem_of_getElem? (i := 212) rfl)) rfl
set_option maxRecDepth 100000 in
theorem jt_693 : Cond.instanceMethod yX7_takeFrom ∈ jw_tbl := jw_inT (jc_3 (List.mem_of_getElem? (i := 213) rfl)) rfl
set_option maxRecDepth 100000 in
theorem jt_694 : Cond.selects yX7_takeFrom.cls yX7_takeFrom yX7_takeFrom ∈ jw_tbl := jw_inT (jc_3 (List.mem_of_getElem? (i := 214) rfl)) rfl
set_option maxRecDepth 100000 in
theorem jt_695 : Cond.code yX7_takeFrom prog_9_method_3_code 2 (Option.none : Option FieldType) ∈ jw_tbl := jw_inT (jc_3 (List.mem_of_getElem? (i := 215) rfl)) rfl
set_option maxRecDepth 100000 in
theorem jt_696 : Cond.methodLink RX7 58 yX9_takeFrom ∈ jw_tbl := jw_inT (jc_3 (List.mem_of_getElem? (i := 216) rfl)) rfl
set_option maxRecDepth 100000 in
theorem jt_697 : Cond.instanceMethod yX9_takeFrom ∈ jw_tbl := jw_inT (jc_3 (List.mem_of_getElem? (i := 217) rfl)) rfl
set_option maxRecDepth 100000 in
theorem jt_698 : Cond.selects yX9_takeFrom.cls yX9_takeFrom yX9_takeFrom ∈ jw_tbl := jw_inT (jc_3 (List.mem_of_getElem? (i := 218) rfl)) rfl
set_option maxRecDepth 100000 in
theorem jt_699 : Cond.code yX9_takeFrom prog_11_method_3_code 2 (Option.none : Option FieldType) ∈ jw_tbl := jw_inT (jc_3 (List.mem_of_getElem? (i := 219) rfl)) rfl
set_option maxRecDepth 100000 in
theorem jt_700 : Cond.methodLink RX9 56 arraycopyName ∈ jw_tbl := jw_inT (jc_3 (List.mem_of_getElem? (i := 220) rfl)) rfl
set_option maxRecDepth 100000 in
theorem jt_701 : Cond.methodLink RX7 62 yX10_takeFrom ∈ jw_tbl := jw_inT (jc_3 (List.mem_of_getElem? (i := 221) rfl)) rfl
set_option maxRecDepth 100000 in
theorem jt_702 : Cond.instanceMethod yX10_takeFrom ∈ jw_tbl := jw_inT (jc_3 (List.mem_of_getElem? (i := 222) rfl)) rfl
set_option maxRecDepth 100000 in
theorem jt_703 : Cond.selects yX10_takeFrom.cls yX10_takeFrom yX10_takeFrom ∈ jw_tbl := jw_inT (jc_3 (List.mem_of_getElem? (i := 223) rfl)) rfl
set_option maxRecDepth 100000 in
theorem jt_704 : Cond.code yX10_takeFrom prog_12_method_3_code 2 (Option.none : Option FieldType) ∈ jw_tbl := jw_inT (jc_3 (List.mem_of_getElem? (i := 224) rfl)) rfl
set_option maxRecDepth 100000 in
theorem jt_705 : Cond.methodLink RX10 40 arraycopyName ∈ jw_tbl := jw_inT (jc_3 (List.mem_of_getElem? (i := 225) rfl)) rfl
set_option maxRecDepth 100000 in
theorem jt_706 : Cond.methodLink RX7 65 yX3_takeFrom ∈ jw_tbl := jw_inT (jc_3 (List.mem_of_getElem? (i := 226) rfl)) rfl
set_option maxRecDepth 100000 in
theorem jt_707 : Cond.instanceMethod yX3_takeFrom ∈ jw_tbl := jw_inT (jc_3 (List.mem_of_getElem? (i := 227) rfl)) rfl
set_option maxRecDepth 100000 in
theorem jt_708 : Cond.selects yX3_takeFrom.cls yX3_takeFrom yX3_takeFrom ∈ jw_tbl := jw_inT (jc_3 (List.mem_of_getElem? (i := 228) rfl)) rfl
set_option maxRecDepth 100000 in
theorem jt_709 : Cond.code yX3_takeFrom prog_5_method_3_code 2 (Option.none : Option FieldType) ∈ jw_tbl := jw_inT (jc_3 (List.mem_of_getElem? (i := 229) rfl)) rfl
set_option maxRecDepth 100000 in
theorem jt_710 : Cond.methodLink RX3 42 arraycopyName ∈ jw_tbl := jw_inT (jc_3 (List.mem_of_getElem? (i := 230) rfl)) rfl
set_option maxRecDepth 100000 in
theorem jt_711 : Cond.methodLink RX7 68 yX1_takeFrom ∈ jw_tbl := jw_inT (jc_3 (List.mem_of_getElem? (i := 231) rfl)) rfl
set_option maxRecDepth 100000 in
theorem jt_712 : Cond.instanceMethod yX1_takeFrom ∈ jw_tbl := jw_inT (jc_3 (List.mem_of_getElem? (i := 232) rfl)) rfl
set_option maxRecDepth 100000 in
theorem jt_713 : Cond.selects yX1_takeFrom.cls yX1_takeFrom yX1_takeFrom ∈ jw_tbl := jw_inT (jc_3 (List.mem_of_getElem? (i := 233) rfl)) rfl
set_option maxRecDepth 100000 in
theorem jt_714 : Cond.code yX1_takeFrom prog_3_method_3_code 2 (Option.none : Option FieldType) ∈ jw_tbl := jw_inT (jc_3 (List.mem_of_getElem? (i := 234) rfl)) rfl
set_option maxRecDepth 100000 in
theorem jt_715 : Cond.methodLink RX1 28 arraycopyName ∈ jw_tbl := jw_inT (jc_3 (List.mem_of_getElem? (i := 235) rfl)) rfl
set_option maxRecDepth 100000 in
theorem jt_716 : Cond.methodLink RX7 71 yX2_takeFrom ∈ jw_tbl := jw_inT (jc_3 (List.mem_of_getElem? (i := 236) rfl)) rfl
set_option maxRecDepth 100000 in
theorem jt_717 : Cond.instanceMethod yX2_takeFrom ∈ jw_tbl := jw_inT (jc_3 (List.mem_of_getElem? (i := 237) rfl)) rfl
set_option maxRecDepth 100000 in
theorem jt_718 : Cond.selects yX2_takeFrom.cls yX2_takeFrom yX2_takeFrom ∈ jw_tbl := jw_inT (jc_3 (List.mem_of_getElem? (i := 238) rfl)) rfl
set_option maxRecDepth 100000 in
theorem jt_719 : Cond.code yX2_takeFrom prog_4_method_3_code 2 (Option.none : Option FieldType) ∈ jw_tbl := jw_inT (jc_3 (List.mem_of_getElem? (i := 239) rfl)) rfl
set_option maxRecDepth 100000 in
theorem jt_720 : Cond.methodLink RX2 24 arraycopyName ∈ jw_tbl := jw_inT (jc_4 (List.mem_of_getElem? (i := 0) rfl)) rfl
set_option maxRecDepth 100000 in
theorem jt_721 : Cond.methodLink RL 44 yX11_fault ∈ jw_tbl := jw_inT (jc_4 (List.mem_of_getElem? (i := 1) rfl)) rfl
set_option maxRecDepth 100000 in
theorem jt_722 : Cond.instanceMethod yX11_fault ∈ jw_tbl := jw_inT (jc_4 (List.mem_of_getElem? (i := 2) rfl)) rfl
set_option maxRecDepth 100000 in
theorem jt_723 : Cond.selects yX11_fault.cls yX11_fault yX11_fault ∈ jw_tbl := jw_inT (jc_4 (List.mem_of_getElem? (i := 3) rfl)) rfl
set_option maxRecDepth 100000 in
theorem jt_724 : Cond.code yX11_fault prog_1_method_8_code 1 (Option.some FieldType.int) ∈ jw_tbl := jw_inT (jc_4 (List.mem_of_getElem? (i := 4) rfl)) rfl
set_option maxRecDepth 100000 in
theorem jt_725 : Cond.methodLink RL 49 yX11_walk ∈ jw_tbl := jw_inT (jc_4 (List.mem_of_getElem? (i := 5) rfl)) rfl
set_option maxRecDepth 100000 in
theorem jt_726 : Cond.instanceMethod yX11_walk ∈ jw_tbl := jw_inT (jc_4 (List.mem_of_getElem? (i := 6) rfl)) rfl
set_option maxRecDepth 100000 in
theorem jt_727 : Cond.selects yX11_walk.cls yX11_walk yX11_walk ∈ jw_tbl := jw_inT (jc_4 (List.mem_of_getElem? (i := 7) rfl)) rfl
set_option maxRecDepth 100000 in
theorem jt_728 : Cond.code yX11_walk prog_1_method_9_code 4 (Option.some FieldType.long) ∈ jw_tbl := jw_inT (jc_4 (List.mem_of_getElem? (i := 8) rfl)) rfl
set_option maxRecDepth 100000 in
theorem jt_729 : Cond.methodLink RX11 146 yX9_isCorner ∈ jw_tbl := jw_inT (jc_4 (List.mem_of_getElem? (i := 9) rfl)) rfl
set_option maxRecDepth 100000 in
theorem jt_730 : Cond.instanceMethod yX9_isCorner ∈ jw_tbl := jw_inT (jc_4 (List.mem_of_getElem? (i := 10) rfl)) rfl
set_option maxRecDepth 100000 in
theorem jt_731 : Cond.selects yX9_isCorner.cls yX9_isCorner yX9_isCorner ∈ jw_tbl := jw_inT (jc_4 (List.mem_of_getElem? (i := 11) rfl)) rfl
set_option maxRecDepth 100000 in
theorem jt_732 : Cond.code yX9_isCorner prog_11_method_8_code 2 (Option.some FieldType.boolean) ∈ jw_tbl := jw_inT (jc_4 (List.mem_of_getElem? (i := 12) rfl)) rfl
set_option maxRecDepth 100000 in
theorem jt_733 : Cond.methodLink RX11 149 yX11_isHalf ∈ jw_tbl := jw_inT (jc_4 (List.mem_of_getElem? (i := 13) rfl)) rfl
set_option maxRecDepth 100000 in
theorem jt_734 : Cond.static yX11_isHalf ∈ jw_tbl := jw_inT (jc_4 (List.mem_of_getElem? (i := 14) rfl)) rfl
set_option maxRecDepth 100000 in
theorem jt_735 : Cond.code yX11_isHalf prog_1_method_51_code 1 (Option.some FieldType.boolean) ∈ jw_tbl := jw_inT (jc_4 (List.mem_of_getElem? (i := 15) rfl)) rfl
set_option maxRecDepth 100000 in
theorem jt_736 : Cond.methodLink RX11 152 yX9_walkTo ∈ jw_tbl := jw_inT (jc_4 (List.mem_of_getElem? (i := 16) rfl)) rfl
set_option maxRecDepth 100000 in
theorem jt_737 : Cond.instanceMethod yX9_walkTo ∈ jw_tbl := jw_inT (jc_4 (List.mem_of_getElem? (i := 17) rfl)) rfl
set_option maxRecDepth 100000 in
theorem jt_738 : Cond.selects yX9_walkTo.cls yX9_walkTo yX9_walkTo ∈ jw_tbl := jw_inT (jc_4 (List.mem_of_getElem? (i := 18) rfl)) rfl
set_option maxRecDepth 100000 in
theorem jt_739 : Cond.code yX9_walkTo prog_11_method_10_code 3 (Option.some FieldType.int) ∈ jw_tbl := jw_inT (jc_4 (List.mem_of_getElem? (i := 19) rfl)) rfl
set_option maxRecDepth 100000 in
theorem jt_740 : Cond.methodLink RX11 156 yX9_hearingTo ∈ jw_tbl := jw_inT (jc_4 (List.mem_of_getElem? (i := 20) rfl)) rfl
set_option maxRecDepth 100000 in
theorem jt_741 : Cond.instanceMethod yX9_hearingTo ∈ jw_tbl := jw_inT (jc_4 (List.mem_of_getElem? (i := 21) rfl)) rfl
set_option maxRecDepth 100000 in
theorem jt_742 : Cond.selects yX9_hearingTo.cls yX9_hearingTo yX9_hearingTo ∈ jw_tbl := jw_inT (jc_4 (List.mem_of_getElem? (i := 22) rfl)) rfl
set_option maxRecDepth 100000 in
theorem jt_743 : Cond.code yX9_hearingTo prog_11_method_11_code 3 (Option.some FieldType.int) ∈ jw_tbl := jw_inT (jc_4 (List.mem_of_getElem? (i := 23) rfl)) rfl
set_option maxRecDepth 100000 in
theorem jt_744 : Cond.methodLink RX11 159 yX11_orNone ∈ jw_tbl := jw_inT (jc_4 (List.mem_of_getElem? (i := 24) rfl)) rfl
set_option maxRecDepth 100000 in
theorem jt_745 : Cond.static yX11_orNone ∈ jw_tbl := jw_inT (jc_4 (List.mem_of_getElem? (i := 25) rfl)) rfl
set_option maxRecDepth 100000 in
theorem jt_746 : Cond.code yX11_orNone prog_1_method_50_code 1 (Option.some FieldType.long) ∈ jw_tbl := jw_inT (jc_4 (List.mem_of_getElem? (i := 26) rfl)) rfl
set_option maxRecDepth 100000 in
theorem jt_747 : Cond.constant RX11 264 (1000000 : Int32) ∈ jw_tbl := jw_inT (jc_4 (List.mem_of_getElem? (i := 27) rfl)) rfl
set_option maxRecDepth 100000 in
theorem jt_748 : Cond.constantLong RX11 326 (-1000000 : Int64) ∈ jw_tbl := jw_inT (jc_4 (List.mem_of_getElem? (i := 28) rfl)) rfl
set_option maxRecDepth 100000 in
theorem jt_749 : Cond.methodLink RL 53 yX11_goes ∈ jw_tbl := jw_inT (jc_4 (List.mem_of_getElem? (i := 29) rfl)) rfl
set_option maxRecDepth 100000 in
theorem jt_750 : Cond.instanceMethod yX11_goes ∈ jw_tbl := jw_inT (jc_4 (List.mem_of_getElem? (i := 30) rfl)) rfl
set_option maxRecDepth 100000 in
theorem jt_751 : Cond.selects yX11_goes.cls yX11_goes yX11_goes ∈ jw_tbl := jw_inT (jc_4 (List.mem_of_getElem? (i := 31) rfl)) rfl
set_option maxRecDepth 100000 in
theorem jt_752 : Cond.code yX11_goes prog_1_method_10_code 4 (Option.some FieldType.long) ∈ jw_tbl := jw_inT (jc_4 (List.mem_of_getElem? (i := 32) rfl)) rfl
set_option maxRecDepth 100000 in
theorem jt_753 : Cond.methodLink RX11 166 yX10_isSeller ∈ jw_tbl := jw_inT (jc_4 (List.mem_of_getElem? (i := 33) rfl)) rfl
set_option maxRecDepth 100000 in
theorem jt_754 : Cond.instanceMethod yX10_isSeller ∈ jw_tbl := jw_inT (jc_4 (List.mem_of_getElem? (i := 34) rfl)) rfl
set_option maxRecDepth 100000 in
theorem jt_755 : Cond.selects yX10_isSeller.cls yX10_isSeller yX10_isSeller ∈ jw_tbl := jw_inT (jc_4 (List.mem_of_getElem? (i := 35) rfl)) rfl
set_option maxRecDepth 100000 in
theorem jt_756 : Cond.code yX10_isSeller prog_12_method_8_code 2 (Option.some FieldType.boolean) ∈ jw_tbl := jw_inT (jc_4 (List.mem_of_getElem? (i := 36) rfl)) rfl
set_option maxRecDepth 100000 in
theorem jt_757 : Cond.methodLink RL 58 yX11_seller ∈ jw_tbl := jw_inT (jc_4 (List.mem_of_getElem? (i := 37) rfl)) rfl
set_option maxRecDepth 100000 in
theorem jt_758 : Cond.instanceMethod yX11_seller ∈ jw_tbl := jw_inT (jc_4 (List.mem_of_getElem? (i := 38) rfl)) rfl
set_option maxRecDepth 100000 in
theorem jt_759 : Cond.selects yX11_seller.cls yX11_seller yX11_seller ∈ jw_tbl := jw_inT (jc_4 (List.mem_of_getElem? (i := 39) rfl)) rfl
set_option maxRecDepth 100000 in
theorem jt_760 : Cond.code yX11_seller prog_1_method_11_code 3 (Option.some FieldType.long) ∈ jw_tbl := jw_inT (jc_4 (List.mem_of_getElem? (i := 40) rfl)) rfl
set_option maxRecDepth 100000 in
theorem jt_761 : Cond.methodLink RX11 178 yX10_foldOf ∈ jw_tbl := jw_inT (jc_4 (List.mem_of_getElem? (i := 41) rfl)) rfl
set_option maxRecDepth 100000 in
theorem jt_762 : Cond.instanceMethod yX10_foldOf ∈ jw_tbl := jw_inT (jc_4 (List.mem_of_getElem? (i := 42) rfl)) rfl
set_option maxRecDepth 100000 in
theorem jt_763 : Cond.selects yX10_foldOf.cls yX10_foldOf yX10_foldOf ∈ jw_tbl := jw_inT (jc_4 (List.mem_of_getElem? (i := 43) rfl)) rfl
set_option maxRecDepth 100000 in
theorem jt_764 : Cond.code yX10_foldOf prog_12_method_10_code 2 (Option.some FieldType.int) ∈ jw_tbl := jw_inT (jc_4 (List.mem_of_getElem? (i := 44) rfl)) rfl
set_option maxRecDepth 100000 in
theorem jt_765 : Cond.methodLink RX11 181 yX10_worthOf ∈ jw_tbl := jw_inT (jc_4 (List.mem_of_getElem? (i := 45) rfl)) rfl
set_option maxRecDepth 100000 in
theorem jt_766 : Cond.instanceMethod yX10_worthOf ∈ jw_tbl := jw_inT (jc_4 (List.mem_of_getElem? (i := 46) rfl)) rfl
set_option maxRecDepth 100000 in
theorem jt_767 : Cond.selects yX10_worthOf.cls yX10_worthOf yX10_worthOf ∈ jw_tbl := jw_inT (jc_4 (List.mem_of_getElem? (i := 47) rfl)) rfl
set_option maxRecDepth 100000 in
theorem jt_768 : Cond.code yX10_worthOf prog_12_method_11_code 2 (Option.some FieldType.int) ∈ jw_tbl := jw_inT (jc_4 (List.mem_of_getElem? (i := 48) rfl)) rfl
set_option maxRecDepth 100000 in
theorem jt_769 : Cond.methodLink RX11 184 yX10_fineOf ∈ jw_tbl := jw_inT (jc_4 (List.mem_of_getElem? (i := 49) rfl)) rfl
set_option maxRecDepth 100000 in
theorem jt_770 : Cond.instanceMethod yX10_fineOf ∈ jw_tbl := jw_inT (jc_4 (List.mem_of_getElem? (i := 50) rfl)) rfl
set_option maxRecDepth 100000 in
theorem jt_771 : Cond.selects yX10_fineOf.cls yX10_fineOf yX10_fineOf ∈ jw_tbl := jw_inT (jc_4 (List.mem_of_getElem? (i := 51) rfl)) rfl
set_option maxRecDepth 100000 in
theorem jt_772 : Cond.code yX10_fineOf prog_12_method_12_code 2 (Option.some FieldType.int) ∈ jw_tbl := jw_inT (jc_4 (List.mem_of_getElem? (i := 52) rfl)) rfl
set_option maxRecDepth 100000 in
theorem jt_773 : Cond.methodLink RL 62 yX11_watch ∈ jw_tbl := jw_inT (jc_4 (List.mem_of_getElem? (i := 53) rfl)) rfl
set_option maxRecDepth 100000 in
theorem jt_774 : Cond.instanceMethod yX11_watch ∈ jw_tbl := jw_inT (jc_4 (List.mem_of_getElem? (i := 54) rfl)) rfl
set_option maxRecDepth 100000 in
theorem jt_775 : Cond.selects yX11_watch.cls yX11_watch yX11_watch ∈ jw_tbl := jw_inT (jc_4 (List.mem_of_getElem? (i := 55) rfl)) rfl
set_option maxRecDepth 100000 in
theorem jt_776 : Cond.code yX11_watch prog_1_method_12_code 4 (Option.some FieldType.long) ∈ jw_tbl := jw_inT (jc_4 (List.mem_of_getElem? (i := 56) rfl)) rfl
set_option maxRecDepth 100000 in
theorem jt_777 : Cond.methodLink RX11 187 yX10_isWatcher ∈ jw_tbl := jw_inT (jc_4 (List.mem_of_getElem? (i := 57) rfl)) rfl
set_option maxRecDepth 100000 in
theorem jt_778 : Cond.instanceMethod yX10_isWatcher ∈ jw_tbl := jw_inT (jc_4 (List.mem_of_getElem? (i := 58) rfl)) rfl
set_option maxRecDepth 100000 in
theorem jt_779 : Cond.selects yX10_isWatcher.cls yX10_isWatcher yX10_isWatcher ∈ jw_tbl := jw_inT (jc_4 (List.mem_of_getElem? (i := 59) rfl)) rfl
set_option maxRecDepth 100000 in
theorem jt_780 : Cond.code yX10_isWatcher prog_12_method_9_code 2 (Option.some FieldType.boolean) ∈ jw_tbl := jw_inT (jc_4 (List.mem_of_getElem? (i := 60) rfl)) rfl
set_option maxRecDepth 100000 in
theorem jt_781 : Cond.methodLink RL 66 yX11_raid ∈ jw_tbl := jw_inT (jc_4 (List.mem_of_getElem? (i := 61) rfl)) rfl
set_option maxRecDepth 100000 in
theorem jt_782 : Cond.instanceMethod yX11_raid ∈ jw_tbl := jw_inT (jc_4 (List.mem_of_getElem? (i := 62) rfl)) rfl
set_option maxRecDepth 100000 in
theorem jt_783 : Cond.selects yX11_raid.cls yX11_raid yX11_raid ∈ jw_tbl := jw_inT (jc_4 (List.mem_of_getElem? (i := 63) rfl)) rfl
set_option maxRecDepth 100000 in
theorem jt_784 : Cond.code yX11_raid prog_1_method_13_code 4 (Option.some FieldType.long) ∈ jw_tbl := jw_inT (jc_4 (List.mem_of_getElem? (i := 64) rfl)) rfl
set_option maxRecDepth 100000 in
theorem jt_785 : Cond.methodLink RX11 193 yX11_raidFrom ∈ jw_tbl := jw_inT (jc_4 (List.mem_of_getElem? (i := 65) rfl)) rfl
set_option maxRecDepth 100000 in
theorem jt_787 : Cond.instanceMethod yX11_raidFrom ∈ jw_tbl := jw_inT (jc_4 (List.mem_of_getElem? (i := 67) rfl)) rfl
set_option maxRecDepth 100000 in
theorem jt_788 : Cond.code yX11_raidFrom prog_1_method_15_code 6 (Option.some FieldType.long) ∈ jw_tbl := jw_inT (jc_4 (List.mem_of_getElem? (i := 68) rfl)) rfl
set_option maxRecDepth 100000 in
theorem jt_789 : Cond.constantLong RX11 201 (-9000000000000000002 : Int64) ∈ jw_tbl := jw_inT (jc_4 (List.mem_of_getElem? (i := 69) rfl)) rfl
set_option maxRecDepth 100000 in
theorem jt_790 : Cond.methodLink RX11 203 yX11_isRoute ∈ jw_tbl := jw_inT (jc_4 (List.mem_of_getElem? (i := 70) rfl)) rfl
set_option maxRecDepth 100000 in
theorem jt_792 : Cond.instanceMethod yX11_isRoute ∈ jw_tbl := jw_inT (jc_4 (List.mem_of_getElem? (i := 72) rfl)) rfl
set_option maxRecDepth 100000 in
theorem jt_793 : Cond.code yX11_isRoute prog_1_method_16_code 6 (Option.some FieldType.boolean) ∈ jw_tbl := jw_inT (jc_4 (List.mem_of_getElem? (i := 73) rfl)) rfl
set_option maxRecDepth 100000 in
theorem jt_794 : Cond.methodLink RX11 229 yX6_item ∈ jw_tbl := jw_inT (jc_4 (List.mem_of_getElem? (i := 74) rfl)) rfl
set_option maxRecDepth 100000 in
theorem jt_795 : Cond.instanceMethod yX6_item ∈ jw_tbl := jw_inT (jc_4 (List.mem_of_getElem? (i := 75) rfl)) rfl
set_option maxRecDepth 100000 in
theorem jt_796 : Cond.selects yX6_item.cls yX6_item yX6_item ∈ jw_tbl := jw_inT (jc_4 (List.mem_of_getElem? (i := 76) rfl)) rfl
set_option maxRecDepth 100000 in
theorem jt_797 : Cond.code yX6_item prog_8_method_7_code 3 (Option.some FieldType.int) ∈ jw_tbl := jw_inT (jc_4 (List.mem_of_getElem? (i := 77) rfl)) rfl
set_option maxRecDepth 100000 in
theorem jt_798 : Cond.methodLink RX11 232 yX9_streetTo ∈ jw_tbl := jw_inT (jc_4 (List.mem_of_getElem? (i := 78) rfl)) rfl
set_option maxRecDepth 100000 in
theorem jt_799 : Cond.methodLink RX11 210 yX3_begin ∈ jw_tbl := jw_inT (jc_4 (List.mem_of_getElem? (i := 79) rfl)) rfl
set_option maxRecDepth 100000 in
theorem jt_800 : Cond.methodLink RX11 216 yX11_walkRoute ∈ jw_tbl := jw_inT (jc_4 (List.mem_of_getElem? (i := 80) rfl)) rfl
set_option maxRecDepth 100000 in
theorem jt_802 : Cond.instanceMethod yX11_walkRoute ∈ jw_tbl := jw_inT (jc_4 (List.mem_of_getElem? (i := 82) rfl)) rfl
set_option maxRecDepth 100000 in
theorem jt_803 : Cond.code yX11_walkRoute prog_1_method_17_code 7 (Option.none : Option FieldType) ∈ jw_tbl := jw_inT (jc_4 (List.mem_of_getElem? (i := 83) rfl)) rfl
set_option maxRecDepth 100000 in
theorem jt_804 : Cond.methodLink RX11 235 yX3_comesTo ∈ jw_tbl := jw_inT (jc_4 (List.mem_of_getElem? (i := 84) rfl)) rfl
set_option maxRecDepth 100000 in
theorem jt_805 : Cond.instanceMethod yX3_comesTo ∈ jw_tbl := jw_inT (jc_4 (List.mem_of_getElem? (i := 85) rfl)) rfl
set_option maxRecDepth 100000 in
theorem jt_806 : Cond.selects yX3_comesTo.cls yX3_comesTo yX3_comesTo ∈ jw_tbl := jw_inT (jc_4 (List.mem_of_getElem? (i := 86) rfl)) rfl
set_option maxRecDepth 100000 in
theorem jt_807 : Cond.code yX3_comesTo prog_5_method_4_code 3 (Option.none : Option FieldType) ∈ jw_tbl := jw_inT (jc_4 (List.mem_of_getElem? (i := 87) rfl)) rfl
set_option maxRecDepth 100000 in
theorem jt_808 : Cond.methodLink RX3 48 yJ9_min_7cf53 ∈ jw_tbl := jw_inT (jc_4 (List.mem_of_getElem? (i := 88) rfl)) rfl
set_option maxRecDepth 100000 in
theorem jt_809 : Cond.methodLink RX11 219 yX3_judge ∈ jw_tbl := jw_inT (jc_4 (List.mem_of_getElem? (i := 89) rfl)) rfl
set_option maxRecDepth 100000 in
theorem jt_810 : Cond.instanceMethod yX3_judge ∈ jw_tbl := jw_inT (jc_4 (List.mem_of_getElem? (i := 90) rfl)) rfl
set_option maxRecDepth 100000 in
theorem jt_811 : Cond.selects yX3_judge.cls yX3_judge yX3_judge ∈ jw_tbl := jw_inT (jc_4 (List.mem_of_getElem? (i := 91) rfl)) rfl
set_option maxRecDepth 100000 in
theorem jt_812 : Cond.code yX3_judge prog_5_method_6_code 5 (Option.none : Option FieldType) ∈ jw_tbl := jw_inT (jc_4 (List.mem_of_getElem? (i := 92) rfl)) rfl
set_option maxRecDepth 100000 in
theorem jt_813 : Cond.methodLink RX3 59 yX3_warning ∈ jw_tbl := jw_inT (jc_4 (List.mem_of_getElem? (i := 93) rfl)) rfl
set_option maxRecDepth 100000 in
theorem jt_815 : Cond.instanceMethod yX3_warning ∈ jw_tbl := jw_inT (jc_4 (List.mem_of_getElem? (i := 95) rfl)) rfl
set_option maxRecDepth 100000 in
theorem jt_816 : Cond.code yX3_warning prog_5_method_9_code 9 (Option.some FieldType.int) ∈ jw_tbl := jw_inT (jc_4 (List.mem_of_getElem? (i := 96) rfl)) rfl
set_option maxRecDepth 100000 in
theorem jt_817 : Cond.methodLink RX3 90 yX9_hearingTo ∈ jw_tbl := jw_inT (jc_4 (List.mem_of_getElem? (i := 97) rfl)) rfl
set_option maxRecDepth 100000 in
theorem jt_818 : Cond.methodLink RX3 66 yX10_foldOf ∈ jw_tbl := jw_inT (jc_4 (List.mem_of_getElem? (i := 98) rfl)) rfl
set_option maxRecDepth 100000 in
theorem jt_819 : Cond.methodLink RX3 70 yX3_outcomeOf ∈ jw_tbl := jw_inT (jc_4 (List.mem_of_getElem? (i := 99) rfl)) rfl
set_option maxRecDepth 100000 in
theorem jt_820 : Cond.static yX3_outcomeOf ∈ jw_tbl := jw_inT (jc_4 (List.mem_of_getElem? (i := 100) rfl)) rfl
set_option maxRecDepth 100000 in
theorem jt_821 : Cond.code yX3_outcomeOf prog_5_method_10_code 4 (Option.some FieldType.int) ∈ jw_tbl := jw_inT (jc_4 (List.mem_of_getElem? (i := 101) rfl)) rfl
set_option maxRecDepth 100000 in
theorem jt_822 : Cond.methodLink RX3 77 yX3_sparedBy ∈ jw_tbl := jw_inT (jc_4 (List.mem_of_getElem? (i := 102) rfl)) rfl
set_option maxRecDepth 100000 in
theorem jt_824 : Cond.instanceMethod yX3_sparedBy ∈ jw_tbl := jw_inT (jc_4 (List.mem_of_getElem? (i := 104) rfl)) rfl
set_option maxRecDepth 100000 in
theorem jt_825 : Cond.code yX3_sparedBy prog_5_method_7_code 7 (Option.some FieldType.int) ∈ jw_tbl := jw_inT (jc_4 (List.mem_of_getElem? (i := 105) rfl)) rfl
set_option maxRecDepth 100000 in
theorem jt_826 : Cond.methodLink RX3 80 yX3_lostIf ∈ jw_tbl := jw_inT (jc_4 (List.mem_of_getElem? (i := 106) rfl)) rfl
set_option maxRecDepth 100000 in
theorem jt_827 : Cond.static yX3_lostIf ∈ jw_tbl := jw_inT (jc_4 (List.mem_of_getElem? (i := 107) rfl)) rfl
set_option maxRecDepth 100000 in
theorem jt_828 : Cond.code yX3_lostIf prog_5_method_8_code 3 (Option.some FieldType.int) ∈ jw_tbl := jw_inT (jc_4 (List.mem_of_getElem? (i := 108) rfl)) rfl
set_option maxRecDepth 100000 in
theorem jt_829 : Cond.methodLink RX3 84 yX10_lossOf ∈ jw_tbl := jw_inT (jc_4 (List.mem_of_getElem? (i := 109) rfl)) rfl
set_option maxRecDepth 100000 in
theorem jt_830 : Cond.instanceMethod yX10_lossOf ∈ jw_tbl := jw_inT (jc_4 (List.mem_of_getElem? (i := 110) rfl)) rfl
set_option maxRecDepth 100000 in
theorem jt_831 : Cond.selects yX10_lossOf.cls yX10_lossOf yX10_lossOf ∈ jw_tbl := jw_inT (jc_4 (List.mem_of_getElem? (i := 111) rfl)) rfl
set_option maxRecDepth 100000 in
theorem jt_832 : Cond.code yX10_lossOf prog_12_method_13_code 2 (Option.some FieldType.int) ∈ jw_tbl := jw_inT (jc_4 (List.mem_of_getElem? (i := 112) rfl)) rfl
set_option maxRecDepth 100000 in
theorem jt_833 : Cond.methodLink RX11 226 yX3_caughtBits ∈ jw_tbl := jw_inT (jc_4 (List.mem_of_getElem? (i := 113) rfl)) rfl
set_option maxRecDepth 100000 in
theorem jt_834 : Cond.instanceMethod yX3_caughtBits ∈ jw_tbl := jw_inT (jc_4 (List.mem_of_getElem? (i := 114) rfl)) rfl
set_option maxRecDepth 100000 in
theorem jt_835 : Cond.selects yX3_caughtBits.cls yX3_caughtBits yX3_caughtBits ∈ jw_tbl := jw_inT (jc_4 (List.mem_of_getElem? (i := 115) rfl)) rfl
set_option maxRecDepth 100000 in
theorem jt_836 : Cond.code yX3_caughtBits prog_5_method_11_code 4 (Option.some FieldType.int) ∈ jw_tbl := jw_inT (jc_4 (List.mem_of_getElem? (i := 116) rfl)) rfl
set_option maxRecDepth 100000 in
theorem jt_837 : Cond.methodLink RL 70 yX11_two ∈ jw_tbl := jw_inT (jc_4 (List.mem_of_getElem? (i := 117) rfl)) rfl
set_option maxRecDepth 100000 in
theorem jt_838 : Cond.instanceMethod yX11_two ∈ jw_tbl := jw_inT (jc_4 (List.mem_of_getElem? (i := 118) rfl)) rfl
set_option maxRecDepth 100000 in
theorem jt_839 : Cond.selects yX11_two.cls yX11_two yX11_two ∈ jw_tbl := jw_inT (jc_4 (List.mem_of_getElem? (i := 119) rfl)) rfl
set_option maxRecDepth 100000 in
theorem jt_840 : Cond.code yX11_two prog_1_method_14_code 5 (Option.some FieldType.long) ∈ jw_tbl := jw_inT (jc_4 (List.mem_of_getElem? (i := 120) rfl)) rfl
set_option maxRecDepth 100000 in
theorem jt_841 : Cond.methodLink RL 75 yX11_after ∈ jw_tbl := jw_inT (jc_4 (List.mem_of_getElem? (i := 121) rfl)) rfl
set_option maxRecDepth 100000 in
theorem jt_842 : Cond.instanceMethod yX11_after ∈ jw_tbl := jw_inT (jc_4 (List.mem_of_getElem? (i := 122) rfl)) rfl
set_option maxRecDepth 100000 in
theorem jt_843 : Cond.selects yX11_after.cls yX11_after yX11_after ∈ jw_tbl := jw_inT (jc_4 (List.mem_of_getElem? (i := 123) rfl)) rfl
set_option maxRecDepth 100000 in
theorem jt_844 : Cond.code yX11_after prog_1_method_18_code 5 (Option.some FieldType.long) ∈ jw_tbl := jw_inT (jc_4 (List.mem_of_getElem? (i := 124) rfl)) rfl
set_option maxRecDepth 100000 in
theorem jt_845 : Cond.methodLink RX11 251 yX11_goneOf ∈ jw_tbl := jw_inT (jc_4 (List.mem_of_getElem? (i := 125) rfl)) rfl
set_option maxRecDepth 100000 in
theorem jt_847 : Cond.instanceMethod yX11_goneOf ∈ jw_tbl := jw_inT (jc_4 (List.mem_of_getElem? (i := 127) rfl)) rfl
set_option maxRecDepth 100000 in
theorem jt_848 : Cond.code yX11_goneOf prog_1_method_19_code 2 (Option.some FieldType.long) ∈ jw_tbl := jw_inT (jc_4 (List.mem_of_getElem? (i := 128) rfl)) rfl
set_option maxRecDepth 100000 in
theorem jt_849 : Cond.methodLink RX11 258 yX7_minutesGone ∈ jw_tbl := jw_inT (jc_4 (List.mem_of_getElem? (i := 129) rfl)) rfl
set_option maxRecDepth 100000 in
theorem jt_850 : Cond.instanceMethod yX7_minutesGone ∈ jw_tbl := jw_inT (jc_4 (List.mem_of_getElem? (i := 130) rfl)) rfl
set_option maxRecDepth 100000 in
theorem jt_851 : Cond.selects yX7_minutesGone.cls yX7_minutesGone yX7_minutesGone ∈ jw_tbl := jw_inT (jc_4 (List.mem_of_getElem? (i := 131) rfl)) rfl
set_option maxRecDepth 100000 in
theorem jt_852 : Cond.code yX7_minutesGone prog_9_method_4_code 2 (Option.some FieldType.int) ∈ jw_tbl := jw_inT (jc_4 (List.mem_of_getElem? (i := 132) rfl)) rfl
set_option maxRecDepth 100000 in
theorem jt_853 : Cond.methodLink RX7 74 yX10_foldOf ∈ jw_tbl := jw_inT (jc_4 (List.mem_of_getElem? (i := 133) rfl)) rfl
set_option maxRecDepth 100000 in
theorem jt_854 : Cond.methodLink RX11 254 yX11_lostInAll ∈ jw_tbl := jw_inT (jc_4 (List.mem_of_getElem? (i := 134) rfl)) rfl
set_option maxRecDepth 100000 in
theorem jt_856 : Cond.instanceMethod yX11_lostInAll ∈ jw_tbl := jw_inT (jc_4 (List.mem_of_getElem? (i := 136) rfl)) rfl
set_option maxRecDepth 100000 in
theorem jt_857 : Cond.code yX11_lostInAll prog_1_method_20_code 4 (Option.some FieldType.long) ∈ jw_tbl := jw_inT (jc_4 (List.mem_of_getElem? (i := 137) rfl)) rfl
set_option maxRecDepth 100000 in
theorem jt_858 : Cond.methodLink RX11 261 yX10_lossOf ∈ jw_tbl := jw_inT (jc_4 (List.mem_of_getElem? (i := 138) rfl)) rfl
set_option maxRecDepth 100000 in
theorem jt_859 : Cond.methodLink RL 79 yX11_nothing ∈ jw_tbl := jw_inT (jc_4 (List.mem_of_getElem? (i := 139) rfl)) rfl
set_option maxRecDepth 100000 in
theorem jt_860 : Cond.instanceMethod yX11_nothing ∈ jw_tbl := jw_inT (jc_4 (List.mem_of_getElem? (i := 140) rfl)) rfl
set_option maxRecDepth 100000 in
theorem jt_861 : Cond.selects yX11_nothing.cls yX11_nothing yX11_nothing ∈ jw_tbl := jw_inT (jc_4 (List.mem_of_getElem? (i := 141) rfl)) rfl
set_option maxRecDepth 100000 in
theorem jt_862 : Cond.code yX11_nothing prog_1_method_21_code 6 (Option.some FieldType.long) ∈ jw_tbl := jw_inT (jc_4 (List.mem_of_getElem? (i := 142) rfl)) rfl
set_option maxRecDepth 100000 in
theorem jt_863 : Cond.methodLink RL 83 yX11_keep ∈ jw_tbl := jw_inT (jc_4 (List.mem_of_getElem? (i := 143) rfl)) rfl
set_option maxRecDepth 100000 in
theorem jt_864 : Cond.instanceMethod yX11_keep ∈ jw_tbl := jw_inT (jc_4 (List.mem_of_getElem? (i := 144) rfl)) rfl
set_option maxRecDepth 100000 in
theorem jt_865 : Cond.selects yX11_keep.cls yX11_keep yX11_keep ∈ jw_tbl := jw_inT (jc_4 (List.mem_of_getElem? (i := 145) rfl)) rfl
set_option maxRecDepth 100000 in
theorem jt_866 : Cond.code yX11_keep prog_1_method_22_code 1 (Option.some FieldType.long) ∈ jw_tbl := jw_inT (jc_4 (List.mem_of_getElem? (i := 146) rfl)) rfl
set_option maxRecDepth 100000 in
theorem jt_867 : Cond.methodLink RX11 277 yX1_add ∈ jw_tbl := jw_inT (jc_4 (List.mem_of_getElem? (i := 147) rfl)) rfl
set_option maxRecDepth 100000 in
theorem jt_868 : Cond.instanceMethod yX1_add ∈ jw_tbl := jw_inT (jc_4 (List.mem_of_getElem? (i := 148) rfl)) rfl
set_option maxRecDepth 100000 in
theorem jt_869 : Cond.selects yX1_add.cls yX1_add yX1_add ∈ jw_tbl := jw_inT (jc_4 (List.mem_of_getElem? (i := 149) rfl)) rfl
set_option maxRecDepth 100000 in
theorem jt_870 : Cond.code yX1_add prog_3_method_4_code 3 (Option.none : Option FieldType) ∈ jw_tbl := jw_inT (jc_4 (List.mem_of_getElem? (i := 150) rfl)) rfl
set_option maxRecDepth 100000 in
theorem jt_871 : Cond.methodLink RX1 34 yX3_cameTo ∈ jw_tbl := jw_inT (jc_4 (List.mem_of_getElem? (i := 151) rfl)) rfl
set_option maxRecDepth 100000 in
theorem jt_872 : Cond.instanceMethod yX3_cameTo ∈ jw_tbl := jw_inT (jc_4 (List.mem_of_getElem? (i := 152) rfl)) rfl
set_option maxRecDepth 100000 in
theorem jt_873 : Cond.selects yX3_cameTo.cls yX3_cameTo yX3_cameTo ∈ jw_tbl := jw_inT (jc_4 (List.mem_of_getElem? (i := 153) rfl)) rfl
set_option maxRecDepth 100000 in
theorem jt_874 : Cond.code yX3_cameTo prog_5_method_5_code 2 (Option.some FieldType.boolean) ∈ jw_tbl := jw_inT (jc_4 (List.mem_of_getElem? (i := 154) rfl)) rfl
set_option maxRecDepth 100000 in
theorem jt_875 : Cond.methodLink RL 87 yX11_feared ∈ jw_tbl := jw_inT (jc_4 (List.mem_of_getElem? (i := 155) rfl)) rfl
set_option maxRecDepth 100000 in
theorem jt_876 : Cond.instanceMethod yX11_feared ∈ jw_tbl := jw_inT (jc_4 (List.mem_of_getElem? (i := 156) rfl)) rfl
set_option maxRecDepth 100000 in
theorem jt_877 : Cond.selects yX11_feared.cls yX11_feared yX11_feared ∈ jw_tbl := jw_inT (jc_4 (List.mem_of_getElem? (i := 157) rfl)) rfl
set_option maxRecDepth 100000 in
theorem jt_878 : Cond.code yX11_feared prog_1_method_23_code 3 (Option.some FieldType.long) ∈ jw_tbl := jw_inT (jc_4 (List.mem_of_getElem? (i := 158) rfl)) rfl
set_option maxRecDepth 100000 in
theorem jt_879 : Cond.methodLink RX11 281 yX1_fearedAbove ∈ jw_tbl := jw_inT (jc_4 (List.mem_of_getElem? (i := 159) rfl)) rfl
set_option maxRecDepth 100000 in
theorem jt_880 : Cond.instanceMethod yX1_fearedAbove ∈ jw_tbl := jw_inT (jc_4 (List.mem_of_getElem? (i := 160) rfl)) rfl
set_option maxRecDepth 100000 in
theorem jt_881 : Cond.selects yX1_fearedAbove.cls yX1_fearedAbove yX1_fearedAbove ∈ jw_tbl := jw_inT (jc_4 (List.mem_of_getElem? (i := 161) rfl)) rfl
set_option maxRecDepth 100000 in
theorem jt_882 : Cond.code yX1_fearedAbove prog_3_method_5_code 2 (Option.some FieldType.int) ∈ jw_tbl := jw_inT (jc_4 (List.mem_of_getElem? (i := 162) rfl)) rfl
set_option maxRecDepth 100000 in
theorem jt_883 : Cond.methodLink RX11 284 yX1_fearedBelow ∈ jw_tbl := jw_inT (jc_4 (List.mem_of_getElem? (i := 163) rfl)) rfl
set_option maxRecDepth 100000 in
theorem jt_884 : Cond.instanceMethod yX1_fearedBelow ∈ jw_tbl := jw_inT (jc_4 (List.mem_of_getElem? (i := 164) rfl)) rfl
set_option maxRecDepth 100000 in
theorem jt_885 : Cond.selects yX1_fearedBelow.cls yX1_fearedBelow yX1_fearedBelow ∈ jw_tbl := jw_inT (jc_4 (List.mem_of_getElem? (i := 165) rfl)) rfl
set_option maxRecDepth 100000 in
theorem jt_886 : Cond.code yX1_fearedBelow prog_3_method_6_code 1 (Option.some FieldType.int) ∈ jw_tbl := jw_inT (jc_4 (List.mem_of_getElem? (i := 166) rfl)) rfl
set_option maxRecDepth 100000 in
theorem jt_887 : Cond.methodLink RX11 287 yX11_half ∈ jw_tbl := jw_inT (jc_4 (List.mem_of_getElem? (i := 167) rfl)) rfl
set_option maxRecDepth 100000 in
theorem jt_888 : Cond.static yX11_half ∈ jw_tbl := jw_inT (jc_4 (List.mem_of_getElem? (i := 168) rfl)) rfl
set_option maxRecDepth 100000 in
theorem jt_889 : Cond.code yX11_half prog_1_method_52_code 7 (Option.some FieldType.long) ∈ jw_tbl := jw_inT (jc_4 (List.mem_of_getElem? (i := 169) rfl)) rfl
set_option maxRecDepth 100000 in
theorem jt_890 : Cond.methodLink RX11 389 yJ9_abs_067f4 ∈ jw_tbl := jw_inT (jc_4 (List.mem_of_getElem? (i := 170) rfl)) rfl
set_option maxRecDepth 100000 in
theorem jt_891 : Cond.static yJ9_abs_067f4 ∈ jw_tbl := jw_inT (jc_4 (List.mem_of_getElem? (i := 171) rfl)) rfl
set_option maxRecDepth 100000 in
theorem jt_892 : Cond.code yJ9_abs_067f4 prog_16_method_61_code 2 (Option.some FieldType.long) ∈ jw_tbl := jw_inT (jc_4 (List.mem_of_getElem? (i := 172) rfl)) rfl
set_option maxRecDepth 100000 in
theorem jt_893 : Cond.methodLink RX11 394 yX11_commonDivisor ∈ jw_tbl := jw_inT (jc_4 (List.mem_of_getElem? (i := 173) rfl)) rfl
set_option maxRecDepth 100000 in
theorem jt_894 : Cond.static yX11_commonDivisor ∈ jw_tbl := jw_inT (jc_4 (List.mem_of_getElem? (i := 174) rfl)) rfl
set_option maxRecDepth 100000 in
theorem jt_895 : Cond.code yX11_commonDivisor prog_1_method_53_code 11 (Option.some FieldType.long) ∈ jw_tbl := jw_inT (jc_4 (List.mem_of_getElem? (i := 175) rfl)) rfl
set_option maxRecDepth 100000 in
theorem jt_896 : Cond.methodLink RL 91 yX11_score ∈ jw_tbl := jw_inT (jc_4 (List.mem_of_getElem? (i := 176) rfl)) rfl
set_option maxRecDepth 100000 in
theorem jt_897 : Cond.instanceMethod yX11_score ∈ jw_tbl := jw_inT (jc_4 (List.mem_of_getElem? (i := 177) rfl)) rfl
set_option maxRecDepth 100000 in
theorem jt_898 : Cond.selects yX11_score.cls yX11_score yX11_score ∈ jw_tbl := jw_inT (jc_4 (List.mem_of_getElem? (i := 178) rfl)) rfl
set_option maxRecDepth 100000 in
theorem jt_899 : Cond.code yX11_score prog_1_method_24_code 3 (Option.some FieldType.long) ∈ jw_tbl := jw_inT (jc_4 (List.mem_of_getElem? (i := 179) rfl)) rfl
set_option maxRecDepth 100000 in
theorem jt_900 : Cond.methodLink RX11 291 yX8_scoreAt ∈ jw_tbl := jw_inT (jc_4 (List.mem_of_getElem? (i := 180) rfl)) rfl
set_option maxRecDepth 100000 in
theorem jt_901 : Cond.instanceMethod yX8_scoreAt ∈ jw_tbl := jw_inT (jc_4 (List.mem_of_getElem? (i := 181) rfl)) rfl
set_option maxRecDepth 100000 in
theorem jt_902 : Cond.selects yX8_scoreAt.cls yX8_scoreAt yX8_scoreAt ∈ jw_tbl := jw_inT (jc_4 (List.mem_of_getElem? (i := 182) rfl)) rfl
set_option maxRecDepth 100000 in
theorem jt_903 : Cond.code yX8_scoreAt prog_10_method_2_code 5 (Option.some FieldType.int) ∈ jw_tbl := jw_inT (jc_4 (List.mem_of_getElem? (i := 183) rfl)) rfl
set_option maxRecDepth 100000 in
theorem jt_904 : Cond.methodLink RX8 50 yX8_scoreAmong ∈ jw_tbl := jw_inT (jc_4 (List.mem_of_getElem? (i := 184) rfl)) rfl
set_option maxRecDepth 100000 in
theorem jt_905 : Cond.instanceMethod yX8_scoreAmong ∈ jw_tbl := jw_inT (jc_4 (List.mem_of_getElem? (i := 185) rfl)) rfl
set_option maxRecDepth 100000 in
theorem jt_906 : Cond.selects yX8_scoreAmong.cls yX8_scoreAmong yX8_scoreAmong ∈ jw_tbl := jw_inT (jc_4 (List.mem_of_getElem? (i := 186) rfl)) rfl
set_option maxRecDepth 100000 in
theorem jt_907 : Cond.code yX8_scoreAmong prog_10_method_3_code 7 (Option.some FieldType.int) ∈ jw_tbl := jw_inT (jc_4 (List.mem_of_getElem? (i := 187) rfl)) rfl
set_option maxRecDepth 100000 in
theorem jt_908 : Cond.methodLink RX8 59 yX10_lossOf ∈ jw_tbl := jw_inT (jc_4 (List.mem_of_getElem? (i := 188) rfl)) rfl
set_option maxRecDepth 100000 in
theorem jt_909 : Cond.methodLink RX8 63 yX1_fearedAbove ∈ jw_tbl := jw_inT (jc_4 (List.mem_of_getElem? (i := 189) rfl)) rfl
set_option maxRecDepth 100000 in
theorem jt_910 : Cond.methodLink RX8 68 yX1_fearedBelow ∈ jw_tbl := jw_inT (jc_4 (List.mem_of_getElem? (i := 190) rfl)) rfl
set_option maxRecDepth 100000 in
theorem jt_911 : Cond.methodLink RL 95 yX11_may ∈ jw_tbl := jw_inT (jc_4 (List.mem_of_getElem? (i := 191) rfl)) rfl
set_option maxRecDepth 100000 in
theorem jt_912 : Cond.instanceMethod yX11_may ∈ jw_tbl := jw_inT (jc_4 (List.mem_of_getElem? (i := 192) rfl)) rfl
set_option maxRecDepth 100000 in
theorem jt_913 : Cond.selects yX11_may.cls yX11_may yX11_may ∈ jw_tbl := jw_inT (jc_4 (List.mem_of_getElem? (i := 193) rfl)) rfl
set_option maxRecDepth 100000 in
theorem jt_914 : Cond.code yX11_may prog_1_method_25_code 2 (Option.some FieldType.long) ∈ jw_tbl := jw_inT (jc_4 (List.mem_of_getElem? (i := 194) rfl)) rfl
set_option maxRecDepth 100000 in
theorem jt_915 : Cond.methodLink RX11 294 yX8_lawfulCorners ∈ jw_tbl := jw_inT (jc_4 (List.mem_of_getElem? (i := 195) rfl)) rfl
set_option maxRecDepth 100000 in
theorem jt_916 : Cond.instanceMethod yX8_lawfulCorners ∈ jw_tbl := jw_inT (jc_4 (List.mem_of_getElem? (i := 196) rfl)) rfl
set_option maxRecDepth 100000 in
theorem jt_917 : Cond.selects yX8_lawfulCorners.cls yX8_lawfulCorners yX8_lawfulCorners ∈ jw_tbl := jw_inT (jc_4 (List.mem_of_getElem? (i := 197) rfl)) rfl
set_option maxRecDepth 100000 in
theorem jt_918 : Cond.code yX8_lawfulCorners prog_10_method_5_code 5 (Option.some FieldType.int) ∈ jw_tbl := jw_inT (jc_4 (List.mem_of_getElem? (i := 198) rfl)) rfl
set_option maxRecDepth 100000 in
theorem jt_919 : Cond.methodLink RX8 82 yX8_isLawful ∈ jw_tbl := jw_inT (jc_4 (List.mem_of_getElem? (i := 199) rfl)) rfl
set_option maxRecDepth 100000 in
theorem jt_920 : Cond.instanceMethod yX8_isLawful ∈ jw_tbl := jw_inT (jc_4 (List.mem_of_getElem? (i := 200) rfl)) rfl
set_option maxRecDepth 100000 in
theorem jt_921 : Cond.selects yX8_isLawful.cls yX8_isLawful yX8_isLawful ∈ jw_tbl := jw_inT (jc_4 (List.mem_of_getElem? (i := 201) rfl)) rfl
set_option maxRecDepth 100000 in
theorem jt_922 : Cond.code yX8_isLawful prog_10_method_4_code 5 (Option.some FieldType.boolean) ∈ jw_tbl := jw_inT (jc_4 (List.mem_of_getElem? (i := 202) rfl)) rfl
set_option maxRecDepth 100000 in
theorem jt_923 : Cond.methodLink RX8 72 yX9_walkTo ∈ jw_tbl := jw_inT (jc_4 (List.mem_of_getElem? (i := 203) rfl)) rfl
set_option maxRecDepth 100000 in
theorem jt_924 : Cond.methodLink RL 99 yX11_newcomer ∈ jw_tbl := jw_inT (jc_4 (List.mem_of_getElem? (i := 204) rfl)) rfl
set_option maxRecDepth 100000 in
theorem jt_925 : Cond.instanceMethod yX11_newcomer ∈ jw_tbl := jw_inT (jc_4 (List.mem_of_getElem? (i := 205) rfl)) rfl
set_option maxRecDepth 100000 in
theorem jt_926 : Cond.selects yX11_newcomer.cls yX11_newcomer yX11_newcomer ∈ jw_tbl := jw_inT (jc_4 (List.mem_of_getElem? (i := 206) rfl)) rfl
set_option maxRecDepth 100000 in
theorem jt_927 : Cond.code yX11_newcomer prog_1_method_26_code 2 (Option.some FieldType.long) ∈ jw_tbl := jw_inT (jc_4 (List.mem_of_getElem? (i := 207) rfl)) rfl
set_option maxRecDepth 100000 in
theorem jt_928 : Cond.methodLink RX11 297 yX10_isGoods ∈ jw_tbl := jw_inT (jc_4 (List.mem_of_getElem? (i := 208) rfl)) rfl
set_option maxRecDepth 100000 in
theorem jt_929 : Cond.instanceMethod yX10_isGoods ∈ jw_tbl := jw_inT (jc_4 (List.mem_of_getElem? (i := 209) rfl)) rfl
set_option maxRecDepth 100000 in
theorem jt_930 : Cond.selects yX10_isGoods.cls yX10_isGoods yX10_isGoods ∈ jw_tbl := jw_inT (jc_4 (List.mem_of_getElem? (i := 210) rfl)) rfl
set_option maxRecDepth 100000 in
theorem jt_931 : Cond.code yX10_isGoods prog_12_method_7_code 2 (Option.some FieldType.boolean) ∈ jw_tbl := jw_inT (jc_4 (List.mem_of_getElem? (i := 211) rfl)) rfl
set_option maxRecDepth 100000 in
theorem jt_932 : Cond.methodLink RL 103 yX11_rest ∈ jw_tbl := jw_inT (jc_4 (List.mem_of_getElem? (i := 212) rfl)) rfl
set_option maxRecDepth 100000 in
theorem jt_933 : Cond.instanceMethod yX11_rest ∈ jw_tbl := jw_inT (jc_4 (List.mem_of_getElem? (i := 213) rfl)) rfl
set_option maxRecDepth 100000 in
theorem jt_934 : Cond.selects yX11_rest.cls yX11_rest yX11_rest ∈ jw_tbl := jw_inT (jc_4 (List.mem_of_getElem? (i := 214) rfl)) rfl
set_option maxRecDepth 100000 in
theorem jt_935 : Cond.code yX11_rest prog_1_method_27_code 1 (Option.some FieldType.long) ∈ jw_tbl := jw_inT (jc_4 (List.mem_of_getElem? (i := 215) rfl)) rfl
set_option maxRecDepth 100000 in
theorem jt_936 : Cond.methodLink RX11 300 yX8_allAtRest ∈ jw_tbl := jw_inT (jc_4 (List.mem_of_getElem? (i := 216) rfl)) rfl
set_option maxRecDepth 100000 in
theorem jt_937 : Cond.instanceMethod yX8_allAtRest ∈ jw_tbl := jw_inT (jc_4 (List.mem_of_getElem? (i := 217) rfl)) rfl
set_option maxRecDepth 100000 in
theorem jt_938 : Cond.selects yX8_allAtRest.cls yX8_allAtRest yX8_allAtRest ∈ jw_tbl := jw_inT (jc_4 (List.mem_of_getElem? (i := 218) rfl)) rfl
set_option maxRecDepth 100000 in
theorem jt_939 : Cond.code yX8_allAtRest prog_10_method_6_code 2 (Option.some FieldType.boolean) ∈ jw_tbl := jw_inT (jc_4 (List.mem_of_getElem? (i := 219) rfl)) rfl
set_option maxRecDepth 100000 in
theorem jt_940 : Cond.methodLink RX8 86 yX8_bestCorner ∈ jw_tbl := jw_inT (jc_4 (List.mem_of_getElem? (i := 220) rfl)) rfl
set_option maxRecDepth 100000 in
theorem jt_942 : Cond.instanceMethod yX8_bestCorner ∈ jw_tbl := jw_inT (jc_4 (List.mem_of_getElem? (i := 222) rfl)) rfl
set_option maxRecDepth 100000 in
theorem jt_943 : Cond.code yX8_bestCorner prog_10_method_9_code 6 (Option.some FieldType.int) ∈ jw_tbl := jw_inT (jc_4 (List.mem_of_getElem? (i := 223) rfl)) rfl
set_option maxRecDepth 100000 in
theorem jt_944 : Cond.methodLink RX8 94 yX8_scoreAt ∈ jw_tbl := jw_inT (jc_4 (List.mem_of_getElem? (i := 224) rfl)) rfl
set_option maxRecDepth 100000 in
theorem jt_945 : Cond.methodLink RL 107 yX11_settle ∈ jw_tbl := jw_inT (jc_4 (List.mem_of_getElem? (i := 225) rfl)) rfl
set_option maxRecDepth 100000 in
theorem jt_946 : Cond.instanceMethod yX11_settle ∈ jw_tbl := jw_inT (jc_4 (List.mem_of_getElem? (i := 226) rfl)) rfl
set_option maxRecDepth 100000 in
theorem jt_947 : Cond.selects yX11_settle.cls yX11_settle yX11_settle ∈ jw_tbl := jw_inT (jc_4 (List.mem_of_getElem? (i := 227) rfl)) rfl
set_option maxRecDepth 100000 in
theorem jt_948 : Cond.code yX11_settle prog_1_method_28_code 1 (Option.some FieldType.long) ∈ jw_tbl := jw_inT (jc_4 (List.mem_of_getElem? (i := 228) rfl)) rfl
set_option maxRecDepth 100000 in
theorem jt_949 : Cond.methodLink RX11 304 yX8_moveTillRest ∈ jw_tbl := jw_inT (jc_4 (List.mem_of_getElem? (i := 229) rfl)) rfl
set_option maxRecDepth 100000 in
theorem jt_950 : Cond.instanceMethod yX8_moveTillRest ∈ jw_tbl := jw_inT (jc_4 (List.mem_of_getElem? (i := 230) rfl)) rfl
set_option maxRecDepth 100000 in
theorem jt_951 : Cond.selects yX8_moveTillRest.cls yX8_moveTillRest yX8_moveTillRest ∈ jw_tbl := jw_inT (jc_4 (List.mem_of_getElem? (i := 231) rfl)) rfl
set_option maxRecDepth 100000 in
theorem jt_952 : Cond.code yX8_moveTillRest prog_10_method_7_code 2 (Option.some FieldType.int) ∈ jw_tbl := jw_inT (jc_4 (List.mem_of_getElem? (i := 232) rfl)) rfl
set_option maxRecDepth 100000 in
theorem jt_953 : Cond.methodLink RX8 89 yX8_moveOnce ∈ jw_tbl := jw_inT (jc_4 (List.mem_of_getElem? (i := 233) rfl)) rfl
set_option maxRecDepth 100000 in
theorem jt_955 : Cond.instanceMethod yX8_moveOnce ∈ jw_tbl := jw_inT (jc_4 (List.mem_of_getElem? (i := 235) rfl)) rfl
set_option maxRecDepth 100000 in
theorem jt_956 : Cond.code yX8_moveOnce prog_10_method_8_code 4 (Option.some FieldType.boolean) ∈ jw_tbl := jw_inT (jc_4 (List.mem_of_getElem? (i := 236) rfl)) rfl
set_option maxRecDepth 100000 in
theorem jt_957 : Cond.constant RX8 93 (-1000000 : Int32) ∈ jw_tbl := jw_inT (jc_4 (List.mem_of_getElem? (i := 237) rfl)) rfl
set_option maxRecDepth 100000 in
theorem jt_958 : Cond.methodLink RL 111 yX11_rests ∈ jw_tbl := jw_inT (jc_4 (List.mem_of_getElem? (i := 238) rfl)) rfl
set_option maxRecDepth 100000 in
theorem jt_959 : Cond.instanceMethod yX11_rests ∈ jw_tbl := jw_inT (jc_4 (List.mem_of_getElem? (i := 239) rfl)) rfl
set_option maxRecDepth 100000 in
theorem jt_960 : Cond.selects yX11_rests.cls yX11_rests yX11_rests ∈ jw_tbl := jw_inT (jc_5 (List.mem_of_getElem? (i := 0) rfl)) rfl
set_option maxRecDepth 100000 in
theorem jt_961 : Cond.code yX11_rests prog_1_method_29_code 2 (Option.some FieldType.long) ∈ jw_tbl := jw_inT (jc_5 (List.mem_of_getElem? (i := 1) rfl)) rfl
set_option maxRecDepth 100000 in
theorem jt_962 : Cond.methodLink RX11 307 yX8_findRest ∈ jw_tbl := jw_inT (jc_5 (List.mem_of_getElem? (i := 2) rfl)) rfl
set_option maxRecDepth 100000 in
theorem jt_963 : Cond.instanceMethod yX8_findRest ∈ jw_tbl := jw_inT (jc_5 (List.mem_of_getElem? (i := 3) rfl)) rfl
set_option maxRecDepth 100000 in
theorem jt_964 : Cond.selects yX8_findRest.cls yX8_findRest yX8_findRest ∈ jw_tbl := jw_inT (jc_5 (List.mem_of_getElem? (i := 4) rfl)) rfl
set_option maxRecDepth 100000 in
theorem jt_965 : Cond.code yX8_findRest prog_10_method_10_code 2 (Option.some FieldType.int) ∈ jw_tbl := jw_inT (jc_5 (List.mem_of_getElem? (i := 5) rfl)) rfl
set_option maxRecDepth 100000 in
theorem jt_966 : Cond.methodLink RX8 106 yJ7_fill_53178 ∈ jw_tbl := jw_inT (jc_5 (List.mem_of_getElem? (i := 6) rfl)) rfl
set_option maxRecDepth 100000 in
theorem jt_967 : Cond.methodLink RX8 112 yX8_fillScores ∈ jw_tbl := jw_inT (jc_5 (List.mem_of_getElem? (i := 7) rfl)) rfl
set_option maxRecDepth 100000 in
theorem jt_969 : Cond.instanceMethod yX8_fillScores ∈ jw_tbl := jw_inT (jc_5 (List.mem_of_getElem? (i := 9) rfl)) rfl
set_option maxRecDepth 100000 in
theorem jt_970 : Cond.code yX8_fillScores prog_10_method_11_code 4 (Option.none : Option FieldType) ∈ jw_tbl := jw_inT (jc_5 (List.mem_of_getElem? (i := 10) rfl)) rfl
set_option maxRecDepth 100000 in
theorem jt_971 : Cond.methodLink RX8 115 yX8_place ∈ jw_tbl := jw_inT (jc_5 (List.mem_of_getElem? (i := 11) rfl)) rfl
set_option maxRecDepth 100000 in
theorem jt_973 : Cond.instanceMethod yX8_place ∈ jw_tbl := jw_inT (jc_5 (List.mem_of_getElem? (i := 13) rfl)) rfl
set_option maxRecDepth 100000 in
theorem jt_974 : Cond.code yX8_place prog_10_method_12_code 4 (Option.none : Option FieldType) ∈ jw_tbl := jw_inT (jc_5 (List.mem_of_getElem? (i := 14) rfl)) rfl
set_option maxRecDepth 100000 in
theorem jt_975 : Cond.methodLink RX8 119 yX8_noteIfAtRest ∈ jw_tbl := jw_inT (jc_5 (List.mem_of_getElem? (i := 15) rfl)) rfl
set_option maxRecDepth 100000 in
theorem jt_977 : Cond.instanceMethod yX8_noteIfAtRest ∈ jw_tbl := jw_inT (jc_5 (List.mem_of_getElem? (i := 17) rfl)) rfl
set_option maxRecDepth 100000 in
theorem jt_978 : Cond.code yX8_noteIfAtRest prog_10_method_14_code 2 (Option.none : Option FieldType) ∈ jw_tbl := jw_inT (jc_5 (List.mem_of_getElem? (i := 18) rfl)) rfl
set_option maxRecDepth 100000 in
theorem jt_979 : Cond.methodLink RX8 125 yX8_wantsToMove ∈ jw_tbl := jw_inT (jc_5 (List.mem_of_getElem? (i := 19) rfl)) rfl
set_option maxRecDepth 100000 in
theorem jt_981 : Cond.instanceMethod yX8_wantsToMove ∈ jw_tbl := jw_inT (jc_5 (List.mem_of_getElem? (i := 21) rfl)) rfl
set_option maxRecDepth 100000 in
theorem jt_982 : Cond.code yX8_wantsToMove prog_10_method_15_code 5 (Option.some FieldType.boolean) ∈ jw_tbl := jw_inT (jc_5 (List.mem_of_getElem? (i := 22) rfl)) rfl
set_option maxRecDepth 100000 in
theorem jt_983 : Cond.methodLink RX8 132 yX8_searchedScore ∈ jw_tbl := jw_inT (jc_5 (List.mem_of_getElem? (i := 23) rfl)) rfl
set_option maxRecDepth 100000 in
theorem jt_985 : Cond.instanceMethod yX8_searchedScore ∈ jw_tbl := jw_inT (jc_5 (List.mem_of_getElem? (i := 25) rfl)) rfl
set_option maxRecDepth 100000 in
theorem jt_986 : Cond.code yX8_searchedScore prog_10_method_16_code 5 (Option.some FieldType.int) ∈ jw_tbl := jw_inT (jc_5 (List.mem_of_getElem? (i := 26) rfl)) rfl
set_option maxRecDepth 100000 in
theorem jt_987 : Cond.methodLink RX8 122 yX8_isClear ∈ jw_tbl := jw_inT (jc_5 (List.mem_of_getElem? (i := 27) rfl)) rfl
set_option maxRecDepth 100000 in
theorem jt_989 : Cond.instanceMethod yX8_isClear ∈ jw_tbl := jw_inT (jc_5 (List.mem_of_getElem? (i := 29) rfl)) rfl
set_option maxRecDepth 100000 in
theorem jt_990 : Cond.code yX8_isClear prog_10_method_13_code 5 (Option.some FieldType.boolean) ∈ jw_tbl := jw_inT (jc_5 (List.mem_of_getElem? (i := 30) rfl)) rfl
set_option maxRecDepth 100000 in
theorem jt_991 : Cond.methodLink RX8 129 yX8_numberOfWay ∈ jw_tbl := jw_inT (jc_5 (List.mem_of_getElem? (i := 31) rfl)) rfl
set_option maxRecDepth 100000 in
theorem jt_993 : Cond.instanceMethod yX8_numberOfWay ∈ jw_tbl := jw_inT (jc_5 (List.mem_of_getElem? (i := 33) rfl)) rfl
set_option maxRecDepth 100000 in
theorem jt_994 : Cond.code yX8_numberOfWay prog_10_method_17_code 3 (Option.some FieldType.int) ∈ jw_tbl := jw_inT (jc_5 (List.mem_of_getElem? (i := 34) rfl)) rfl
set_option maxRecDepth 100000 in
theorem jt_995 : Cond.methodLink RL 115 yX11_saved ∈ jw_tbl := jw_inT (jc_5 (List.mem_of_getElem? (i := 35) rfl)) rfl
set_option maxRecDepth 100000 in
theorem jt_996 : Cond.instanceMethod yX11_saved ∈ jw_tbl := jw_inT (jc_5 (List.mem_of_getElem? (i := 36) rfl)) rfl
set_option maxRecDepth 100000 in
theorem jt_997 : Cond.selects yX11_saved.cls yX11_saved yX11_saved ∈ jw_tbl := jw_inT (jc_5 (List.mem_of_getElem? (i := 37) rfl)) rfl
set_option maxRecDepth 100000 in
theorem jt_998 : Cond.code yX11_saved prog_1_method_30_code 3 (Option.some FieldType.long) ∈ jw_tbl := jw_inT (jc_5 (List.mem_of_getElem? (i := 38) rfl)) rfl
set_option maxRecDepth 100000 in
theorem jt_999 : Cond.methodLink RX11 310 yX1_savedBy ∈ jw_tbl := jw_inT (jc_5 (List.mem_of_getElem? (i := 39) rfl)) rfl
set_option maxRecDepth 100000 in
theorem jt_1000 : Cond.instanceMethod yX1_savedBy ∈ jw_tbl := jw_inT (jc_5 (List.mem_of_getElem? (i := 40) rfl)) rfl
set_option maxRecDepth 100000 in
theorem jt_1001 : Cond.selects yX1_savedBy.cls yX1_savedBy yX1_savedBy ∈ jw_tbl := jw_inT (jc_5 (List.mem_of_getElem? (i := 41) rfl)) rfl
set_option maxRecDepth 100000 in
theorem jt_1002 : Cond.code yX1_savedBy prog_3_method_7_code 3 (Option.some FieldType.int) ∈ jw_tbl := jw_inT (jc_5 (List.mem_of_getElem? (i := 42) rfl)) rfl
set_option maxRecDepth 100000 in
theorem jt_1003 : Cond.methodLink RL 119 yX11_pays ∈ jw_tbl := jw_inT (jc_5 (List.mem_of_getElem? (i := 43) rfl)) rfl
set_option maxRecDepth 100000 in
theorem jt_1004 : Cond.instanceMethod yX11_pays ∈ jw_tbl := jw_inT (jc_5 (List.mem_of_getElem? (i := 44) rfl)) rfl
set_option maxRecDepth 100000 in
theorem jt_1005 : Cond.selects yX11_pays.cls yX11_pays yX11_pays ∈ jw_tbl := jw_inT (jc_5 (List.mem_of_getElem? (i := 45) rfl)) rfl
set_option maxRecDepth 100000 in
theorem jt_1006 : Cond.code yX11_pays prog_1_method_31_code 5 (Option.some FieldType.long) ∈ jw_tbl := jw_inT (jc_5 (List.mem_of_getElem? (i := 46) rfl)) rfl
set_option maxRecDepth 100000 in
theorem jt_1007 : Cond.methodLink RX11 313 yX5_share ∈ jw_tbl := jw_inT (jc_5 (List.mem_of_getElem? (i := 47) rfl)) rfl
set_option maxRecDepth 100000 in
theorem jt_1008 : Cond.instanceMethod yX5_share ∈ jw_tbl := jw_inT (jc_5 (List.mem_of_getElem? (i := 48) rfl)) rfl
set_option maxRecDepth 100000 in
theorem jt_1009 : Cond.selects yX5_share.cls yX5_share yX5_share ∈ jw_tbl := jw_inT (jc_5 (List.mem_of_getElem? (i := 49) rfl)) rfl
set_option maxRecDepth 100000 in
theorem jt_1010 : Cond.code yX5_share prog_7_method_2_code 12 (Option.none : Option FieldType) ∈ jw_tbl := jw_inT (jc_5 (List.mem_of_getElem? (i := 50) rfl)) rfl
set_option maxRecDepth 100000 in
theorem jt_1011 : Cond.methodLink RX5 38 yJ6_bitCount_0f7a4 ∈ jw_tbl := jw_inT (jc_5 (List.mem_of_getElem? (i := 51) rfl)) rfl
set_option maxRecDepth 100000 in
theorem jt_1012 : Cond.static yJ6_bitCount_0f7a4 ∈ jw_tbl := jw_inT (jc_5 (List.mem_of_getElem? (i := 52) rfl)) rfl
set_option maxRecDepth 100000 in
theorem jt_1013 : Cond.code yJ6_bitCount_0f7a4 prog_15_method_49_code 1 (Option.some FieldType.int) ∈ jw_tbl := jw_inT (jc_5 (List.mem_of_getElem? (i := 53) rfl)) rfl
set_option maxRecDepth 100000 in
theorem jt_1014 : Cond.constant RJ6 265 (1431655765 : Int32) ∈ jw_tbl := jw_inT (jc_5 (List.mem_of_getElem? (i := 54) rfl)) rfl
set_option maxRecDepth 100000 in
theorem jt_1015 : Cond.constant RJ6 266 (858993459 : Int32) ∈ jw_tbl := jw_inT (jc_5 (List.mem_of_getElem? (i := 55) rfl)) rfl
set_option maxRecDepth 100000 in
theorem jt_1016 : Cond.constant RJ6 267 (252645135 : Int32) ∈ jw_tbl := jw_inT (jc_5 (List.mem_of_getElem? (i := 56) rfl)) rfl
set_option maxRecDepth 100000 in
theorem jt_1017 : Cond.fieldLink RX5 44 "StringsSheet$Reckoner" "FACTORIALS" "[I" ∈ jw_tbl := jw_inT (jc_5 (List.mem_of_getElem? (i := 57) rfl)) rfl
set_option maxRecDepth 100000 in
theorem jt_1019 : Cond.methodLink RX5 47 yX5_gain ∈ jw_tbl := jw_inT (jc_5 (List.mem_of_getElem? (i := 59) rfl)) rfl
set_option maxRecDepth 100000 in
theorem jt_1021 : Cond.instanceMethod yX5_gain ∈ jw_tbl := jw_inT (jc_5 (List.mem_of_getElem? (i := 61) rfl)) rfl
set_option maxRecDepth 100000 in
theorem jt_1022 : Cond.code yX5_gain prog_7_method_3_code 6 (Option.some FieldType.int) ∈ jw_tbl := jw_inT (jc_5 (List.mem_of_getElem? (i := 62) rfl)) rfl
set_option maxRecDepth 100000 in
theorem jt_1023 : Cond.methodLink RX5 55 yX1_savedBy ∈ jw_tbl := jw_inT (jc_5 (List.mem_of_getElem? (i := 63) rfl)) rfl
set_option maxRecDepth 100000 in
theorem jt_1024 : Cond.methodLink RX5 64 yJ9_max_7cf53 ∈ jw_tbl := jw_inT (jc_5 (List.mem_of_getElem? (i := 64) rfl)) rfl
set_option maxRecDepth 100000 in
theorem jt_1025 : Cond.static yJ9_max_7cf53 ∈ jw_tbl := jw_inT (jc_5 (List.mem_of_getElem? (i := 65) rfl)) rfl
set_option maxRecDepth 100000 in
theorem jt_1026 : Cond.code yJ9_max_7cf53 prog_16_method_65_code 2 (Option.some FieldType.int) ∈ jw_tbl := jw_inT (jc_5 (List.mem_of_getElem? (i := 66) rfl)) rfl
set_option maxRecDepth 100000 in
theorem jt_1027 : Cond.methodLink RL 123 yX11_stored ∈ jw_tbl := jw_inT (jc_5 (List.mem_of_getElem? (i := 67) rfl)) rfl
set_option maxRecDepth 100000 in
theorem jt_1028 : Cond.instanceMethod yX11_stored ∈ jw_tbl := jw_inT (jc_5 (List.mem_of_getElem? (i := 68) rfl)) rfl
set_option maxRecDepth 100000 in
theorem jt_1029 : Cond.selects yX11_stored.cls yX11_stored yX11_stored ∈ jw_tbl := jw_inT (jc_5 (List.mem_of_getElem? (i := 69) rfl)) rfl
set_option maxRecDepth 100000 in
theorem jt_1030 : Cond.code yX11_stored prog_1_method_32_code 3 (Option.some FieldType.long) ∈ jw_tbl := jw_inT (jc_5 (List.mem_of_getElem? (i := 70) rfl)) rfl
set_option maxRecDepth 100000 in
theorem jt_1031 : Cond.methodLink RX11 323 yX5_leastStorage ∈ jw_tbl := jw_inT (jc_5 (List.mem_of_getElem? (i := 71) rfl)) rfl
set_option maxRecDepth 100000 in
theorem jt_1032 : Cond.instanceMethod yX5_leastStorage ∈ jw_tbl := jw_inT (jc_5 (List.mem_of_getElem? (i := 72) rfl)) rfl
set_option maxRecDepth 100000 in
theorem jt_1033 : Cond.selects yX5_leastStorage.cls yX5_leastStorage yX5_leastStorage ∈ jw_tbl := jw_inT (jc_5 (List.mem_of_getElem? (i := 73) rfl)) rfl
set_option maxRecDepth 100000 in
theorem jt_1034 : Cond.code yX5_leastStorage prog_7_method_4_code 2 (Option.some FieldType.int) ∈ jw_tbl := jw_inT (jc_5 (List.mem_of_getElem? (i := 74) rfl)) rfl
set_option maxRecDepth 100000 in
theorem jt_1035 : Cond.methodLink RX5 74 yX5_leastFrom ∈ jw_tbl := jw_inT (jc_5 (List.mem_of_getElem? (i := 75) rfl)) rfl
set_option maxRecDepth 100000 in
theorem jt_1037 : Cond.instanceMethod yX5_leastFrom ∈ jw_tbl := jw_inT (jc_5 (List.mem_of_getElem? (i := 77) rfl)) rfl
set_option maxRecDepth 100000 in
theorem jt_1038 : Cond.code yX5_leastFrom prog_7_method_5_code 5 (Option.some FieldType.int) ∈ jw_tbl := jw_inT (jc_5 (List.mem_of_getElem? (i := 78) rfl)) rfl
set_option maxRecDepth 100000 in
theorem jt_1039 : Cond.constant RX5 77 (1000000 : Int32) ∈ jw_tbl := jw_inT (jc_5 (List.mem_of_getElem? (i := 79) rfl)) rfl
set_option maxRecDepth 100000 in
theorem jt_1040 : Cond.methodLink RX5 78 yX5_costWith ∈ jw_tbl := jw_inT (jc_5 (List.mem_of_getElem? (i := 80) rfl)) rfl
set_option maxRecDepth 100000 in
theorem jt_1042 : Cond.instanceMethod yX5_costWith ∈ jw_tbl := jw_inT (jc_5 (List.mem_of_getElem? (i := 82) rfl)) rfl
set_option maxRecDepth 100000 in
theorem jt_1043 : Cond.code yX5_costWith prog_7_method_6_code 6 (Option.some FieldType.int) ∈ jw_tbl := jw_inT (jc_5 (List.mem_of_getElem? (i := 83) rfl)) rfl
set_option maxRecDepth 100000 in
theorem jt_1044 : Cond.methodLink RX5 90 yX9_walkTo ∈ jw_tbl := jw_inT (jc_5 (List.mem_of_getElem? (i := 84) rfl)) rfl
set_option maxRecDepth 100000 in
theorem jt_1045 : Cond.methodLink RX5 96 yX10_worthOf ∈ jw_tbl := jw_inT (jc_5 (List.mem_of_getElem? (i := 85) rfl)) rfl
set_option maxRecDepth 100000 in
theorem jt_1046 : Cond.methodLink RX5 81 yJ9_min_7cf53 ∈ jw_tbl := jw_inT (jc_5 (List.mem_of_getElem? (i := 86) rfl)) rfl
set_option maxRecDepth 100000 in
theorem jt_1047 : Cond.methodLink RX11 328 yX5_cellarFor ∈ jw_tbl := jw_inT (jc_5 (List.mem_of_getElem? (i := 87) rfl)) rfl
set_option maxRecDepth 100000 in
theorem jt_1048 : Cond.instanceMethod yX5_cellarFor ∈ jw_tbl := jw_inT (jc_5 (List.mem_of_getElem? (i := 88) rfl)) rfl
set_option maxRecDepth 100000 in
theorem jt_1049 : Cond.selects yX5_cellarFor.cls yX5_cellarFor yX5_cellarFor ∈ jw_tbl := jw_inT (jc_5 (List.mem_of_getElem? (i := 89) rfl)) rfl
set_option maxRecDepth 100000 in
theorem jt_1050 : Cond.code yX5_cellarFor prog_7_method_7_code 5 (Option.some FieldType.int) ∈ jw_tbl := jw_inT (jc_5 (List.mem_of_getElem? (i := 90) rfl)) rfl
set_option maxRecDepth 100000 in
theorem jt_1051 : Cond.constant RX5 99 (-1000000 : Int32) ∈ jw_tbl := jw_inT (jc_5 (List.mem_of_getElem? (i := 91) rfl)) rfl
set_option maxRecDepth 100000 in
theorem jt_1052 : Cond.methodLink RX5 100 yX5_firstOfLeast ∈ jw_tbl := jw_inT (jc_5 (List.mem_of_getElem? (i := 92) rfl)) rfl
set_option maxRecDepth 100000 in
theorem jt_1054 : Cond.instanceMethod yX5_firstOfLeast ∈ jw_tbl := jw_inT (jc_5 (List.mem_of_getElem? (i := 94) rfl)) rfl
set_option maxRecDepth 100000 in
theorem jt_1055 : Cond.code yX5_firstOfLeast prog_7_method_8_code 4 (Option.some FieldType.int) ∈ jw_tbl := jw_inT (jc_5 (List.mem_of_getElem? (i := 95) rfl)) rfl
set_option maxRecDepth 100000 in
theorem jt_1056 : Cond.methodLink RL 127 yX11_escapes ∈ jw_tbl := jw_inT (jc_5 (List.mem_of_getElem? (i := 96) rfl)) rfl
set_option maxRecDepth 100000 in
theorem jt_1057 : Cond.instanceMethod yX11_escapes ∈ jw_tbl := jw_inT (jc_5 (List.mem_of_getElem? (i := 97) rfl)) rfl
set_option maxRecDepth 100000 in
theorem jt_1058 : Cond.selects yX11_escapes.cls yX11_escapes yX11_escapes ∈ jw_tbl := jw_inT (jc_5 (List.mem_of_getElem? (i := 98) rfl)) rfl
set_option maxRecDepth 100000 in
theorem jt_1059 : Cond.code yX11_escapes prog_1_method_33_code 3 (Option.some FieldType.long) ∈ jw_tbl := jw_inT (jc_5 (List.mem_of_getElem? (i := 99) rfl)) rfl
set_option maxRecDepth 100000 in
theorem jt_1060 : Cond.methodLink RX11 331 yX9_waysApart ∈ jw_tbl := jw_inT (jc_5 (List.mem_of_getElem? (i := 100) rfl)) rfl
set_option maxRecDepth 100000 in
theorem jt_1061 : Cond.instanceMethod yX9_waysApart ∈ jw_tbl := jw_inT (jc_5 (List.mem_of_getElem? (i := 101) rfl)) rfl
set_option maxRecDepth 100000 in
theorem jt_1062 : Cond.selects yX9_waysApart.cls yX9_waysApart yX9_waysApart ∈ jw_tbl := jw_inT (jc_5 (List.mem_of_getElem? (i := 102) rfl)) rfl
set_option maxRecDepth 100000 in
theorem jt_1063 : Cond.code yX9_waysApart prog_11_method_16_code 6 (Option.some FieldType.int) ∈ jw_tbl := jw_inT (jc_5 (List.mem_of_getElem? (i := 103) rfl)) rfl
set_option maxRecDepth 100000 in
theorem jt_1064 : Cond.methodLink RX9 80 yJ6_bitCount_0f7a4 ∈ jw_tbl := jw_inT (jc_5 (List.mem_of_getElem? (i := 104) rfl)) rfl
set_option maxRecDepth 100000 in
theorem jt_1065 : Cond.methodLink RX9 85 yX9_parts ∈ jw_tbl := jw_inT (jc_5 (List.mem_of_getElem? (i := 105) rfl)) rfl
set_option maxRecDepth 100000 in
theorem jt_1067 : Cond.instanceMethod yX9_parts ∈ jw_tbl := jw_inT (jc_5 (List.mem_of_getElem? (i := 107) rfl)) rfl
set_option maxRecDepth 100000 in
theorem jt_1068 : Cond.code yX9_parts prog_11_method_17_code 6 (Option.some FieldType.boolean) ∈ jw_tbl := jw_inT (jc_5 (List.mem_of_getElem? (i := 108) rfl)) rfl
set_option maxRecDepth 100000 in
theorem jt_1069 : Cond.methodLink RX9 89 yX9_beside ∈ jw_tbl := jw_inT (jc_5 (List.mem_of_getElem? (i := 109) rfl)) rfl
set_option maxRecDepth 100000 in
theorem jt_1071 : Cond.instanceMethod yX9_beside ∈ jw_tbl := jw_inT (jc_5 (List.mem_of_getElem? (i := 111) rfl)) rfl
set_option maxRecDepth 100000 in
theorem jt_1072 : Cond.code yX9_beside prog_11_method_18_code 8 (Option.some FieldType.int) ∈ jw_tbl := jw_inT (jc_5 (List.mem_of_getElem? (i := 112) rfl)) rfl
set_option maxRecDepth 100000 in
theorem jt_1073 : Cond.methodLink RL 131 yX11_value ∈ jw_tbl := jw_inT (jc_5 (List.mem_of_getElem? (i := 113) rfl)) rfl
set_option maxRecDepth 100000 in
theorem jt_1074 : Cond.instanceMethod yX11_value ∈ jw_tbl := jw_inT (jc_5 (List.mem_of_getElem? (i := 114) rfl)) rfl
set_option maxRecDepth 100000 in
theorem jt_1075 : Cond.selects yX11_value.cls yX11_value yX11_value ∈ jw_tbl := jw_inT (jc_5 (List.mem_of_getElem? (i := 115) rfl)) rfl
set_option maxRecDepth 100000 in
theorem jt_1076 : Cond.code yX11_value prog_1_method_34_code 3 (Option.some FieldType.long) ∈ jw_tbl := jw_inT (jc_5 (List.mem_of_getElem? (i := 116) rfl)) rfl
set_option maxRecDepth 100000 in
theorem jt_1077 : Cond.methodLink RX11 334 yX5_mixRounds ∈ jw_tbl := jw_inT (jc_5 (List.mem_of_getElem? (i := 117) rfl)) rfl
set_option maxRecDepth 100000 in
theorem jt_1078 : Cond.instanceMethod yX5_mixRounds ∈ jw_tbl := jw_inT (jc_5 (List.mem_of_getElem? (i := 118) rfl)) rfl
set_option maxRecDepth 100000 in
theorem jt_1079 : Cond.selects yX5_mixRounds.cls yX5_mixRounds yX5_mixRounds ∈ jw_tbl := jw_inT (jc_5 (List.mem_of_getElem? (i := 119) rfl)) rfl
set_option maxRecDepth 100000 in
theorem jt_1080 : Cond.code yX5_mixRounds prog_7_method_9_code 11 (Option.none : Option FieldType) ∈ jw_tbl := jw_inT (jc_5 (List.mem_of_getElem? (i := 120) rfl)) rfl
set_option maxRecDepth 100000 in
theorem jt_1081 : Cond.methodLink RX5 106 yX5_bestWithout ∈ jw_tbl := jw_inT (jc_5 (List.mem_of_getElem? (i := 121) rfl)) rfl
set_option maxRecDepth 100000 in
theorem jt_1083 : Cond.instanceMethod yX5_bestWithout ∈ jw_tbl := jw_inT (jc_5 (List.mem_of_getElem? (i := 123) rfl)) rfl
set_option maxRecDepth 100000 in
theorem jt_1084 : Cond.code yX5_bestWithout prog_7_method_10_code 4 (Option.some FieldType.int) ∈ jw_tbl := jw_inT (jc_5 (List.mem_of_getElem? (i := 124) rfl)) rfl
set_option maxRecDepth 100000 in
theorem jt_1085 : Cond.methodLink RL 135 yX11_odds ∈ jw_tbl := jw_inT (jc_5 (List.mem_of_getElem? (i := 125) rfl)) rfl
set_option maxRecDepth 100000 in
theorem jt_1086 : Cond.instanceMethod yX11_odds ∈ jw_tbl := jw_inT (jc_5 (List.mem_of_getElem? (i := 126) rfl)) rfl
set_option maxRecDepth 100000 in
theorem jt_1087 : Cond.selects yX11_odds.cls yX11_odds yX11_odds ∈ jw_tbl := jw_inT (jc_5 (List.mem_of_getElem? (i := 127) rfl)) rfl
set_option maxRecDepth 100000 in
theorem jt_1088 : Cond.code yX11_odds prog_1_method_35_code 4 (Option.some FieldType.long) ∈ jw_tbl := jw_inT (jc_5 (List.mem_of_getElem? (i := 128) rfl)) rfl
set_option maxRecDepth 100000 in
theorem jt_1089 : Cond.methodLink RX11 337 yX5_oddsFromValue ∈ jw_tbl := jw_inT (jc_5 (List.mem_of_getElem? (i := 129) rfl)) rfl
set_option maxRecDepth 100000 in
theorem jt_1090 : Cond.instanceMethod yX5_oddsFromValue ∈ jw_tbl := jw_inT (jc_5 (List.mem_of_getElem? (i := 130) rfl)) rfl
set_option maxRecDepth 100000 in
theorem jt_1091 : Cond.selects yX5_oddsFromValue.cls yX5_oddsFromValue yX5_oddsFromValue ∈ jw_tbl := jw_inT (jc_5 (List.mem_of_getElem? (i := 131) rfl)) rfl
set_option maxRecDepth 100000 in
theorem jt_1092 : Cond.code yX5_oddsFromValue prog_7_method_11_code 4 (Option.none : Option FieldType) ∈ jw_tbl := jw_inT (jc_5 (List.mem_of_getElem? (i := 132) rfl)) rfl
set_option maxRecDepth 100000 in
theorem jt_1093 : Cond.methodLink RX5 112 yJ9_max_f86c9 ∈ jw_tbl := jw_inT (jc_5 (List.mem_of_getElem? (i := 133) rfl)) rfl
set_option maxRecDepth 100000 in
theorem jt_1094 : Cond.static yJ9_max_f86c9 ∈ jw_tbl := jw_inT (jc_5 (List.mem_of_getElem? (i := 134) rfl)) rfl
set_option maxRecDepth 100000 in
theorem jt_1095 : Cond.code yJ9_max_f86c9 prog_16_method_66_code 4 (Option.some FieldType.long) ∈ jw_tbl := jw_inT (jc_5 (List.mem_of_getElem? (i := 135) rfl)) rfl
set_option maxRecDepth 100000 in
theorem jt_1096 : Cond.methodLink RL 139 yX11_owe ∈ jw_tbl := jw_inT (jc_5 (List.mem_of_getElem? (i := 136) rfl)) rfl
set_option maxRecDepth 100000 in
theorem jt_1097 : Cond.instanceMethod yX11_owe ∈ jw_tbl := jw_inT (jc_5 (List.mem_of_getElem? (i := 137) rfl)) rfl
set_option maxRecDepth 100000 in
theorem jt_1098 : Cond.selects yX11_owe.cls yX11_owe yX11_owe ∈ jw_tbl := jw_inT (jc_5 (List.mem_of_getElem? (i := 138) rfl)) rfl
set_option maxRecDepth 100000 in
theorem jt_1099 : Cond.code yX11_owe prog_1_method_36_code 4 (Option.some FieldType.long) ∈ jw_tbl := jw_inT (jc_5 (List.mem_of_getElem? (i := 139) rfl)) rfl
set_option maxRecDepth 100000 in
theorem jt_1100 : Cond.methodLink RX11 340 yX11_arePair ∈ jw_tbl := jw_inT (jc_5 (List.mem_of_getElem? (i := 140) rfl)) rfl
set_option maxRecDepth 100000 in
theorem jt_1102 : Cond.instanceMethod yX11_arePair ∈ jw_tbl := jw_inT (jc_5 (List.mem_of_getElem? (i := 142) rfl)) rfl
set_option maxRecDepth 100000 in
theorem jt_1103 : Cond.code yX11_arePair prog_1_method_38_code 3 (Option.some FieldType.boolean) ∈ jw_tbl := jw_inT (jc_5 (List.mem_of_getElem? (i := 143) rfl)) rfl
set_option maxRecDepth 100000 in
theorem jt_1104 : Cond.methodLink RX11 347 yX2_sumOf ∈ jw_tbl := jw_inT (jc_5 (List.mem_of_getElem? (i := 144) rfl)) rfl
set_option maxRecDepth 100000 in
theorem jt_1105 : Cond.instanceMethod yX2_sumOf ∈ jw_tbl := jw_inT (jc_5 (List.mem_of_getElem? (i := 145) rfl)) rfl
set_option maxRecDepth 100000 in
theorem jt_1106 : Cond.selects yX2_sumOf.cls yX2_sumOf yX2_sumOf ∈ jw_tbl := jw_inT (jc_5 (List.mem_of_getElem? (i := 146) rfl)) rfl
set_option maxRecDepth 100000 in
theorem jt_1107 : Cond.code yX2_sumOf prog_4_method_4_code 3 (Option.some FieldType.int) ∈ jw_tbl := jw_inT (jc_5 (List.mem_of_getElem? (i := 147) rfl)) rfl
set_option maxRecDepth 100000 in
theorem jt_1108 : Cond.methodLink RX11 352 yX2_change ∈ jw_tbl := jw_inT (jc_5 (List.mem_of_getElem? (i := 148) rfl)) rfl
set_option maxRecDepth 100000 in
theorem jt_1109 : Cond.instanceMethod yX2_change ∈ jw_tbl := jw_inT (jc_5 (List.mem_of_getElem? (i := 149) rfl)) rfl
set_option maxRecDepth 100000 in
theorem jt_1110 : Cond.selects yX2_change.cls yX2_change yX2_change ∈ jw_tbl := jw_inT (jc_5 (List.mem_of_getElem? (i := 150) rfl)) rfl
set_option maxRecDepth 100000 in
theorem jt_1111 : Cond.code yX2_change prog_4_method_5_code 4 (Option.none : Option FieldType) ∈ jw_tbl := jw_inT (jc_5 (List.mem_of_getElem? (i := 151) rfl)) rfl
set_option maxRecDepth 100000 in
theorem jt_1112 : Cond.methodLink RL 143 yX11_owed ∈ jw_tbl := jw_inT (jc_5 (List.mem_of_getElem? (i := 152) rfl)) rfl
set_option maxRecDepth 100000 in
theorem jt_1113 : Cond.instanceMethod yX11_owed ∈ jw_tbl := jw_inT (jc_5 (List.mem_of_getElem? (i := 153) rfl)) rfl
set_option maxRecDepth 100000 in
theorem jt_1114 : Cond.selects yX11_owed.cls yX11_owed yX11_owed ∈ jw_tbl := jw_inT (jc_5 (List.mem_of_getElem? (i := 154) rfl)) rfl
set_option maxRecDepth 100000 in
theorem jt_1115 : Cond.code yX11_owed prog_1_method_37_code 3 (Option.some FieldType.long) ∈ jw_tbl := jw_inT (jc_5 (List.mem_of_getElem? (i := 155) rfl)) rfl
set_option maxRecDepth 100000 in
theorem jt_1116 : Cond.methodLink RL 147 yX11_passed ∈ jw_tbl := jw_inT (jc_5 (List.mem_of_getElem? (i := 156) rfl)) rfl
set_option maxRecDepth 100000 in
theorem jt_1117 : Cond.instanceMethod yX11_passed ∈ jw_tbl := jw_inT (jc_5 (List.mem_of_getElem? (i := 157) rfl)) rfl
set_option maxRecDepth 100000 in
theorem jt_1118 : Cond.selects yX11_passed.cls yX11_passed yX11_passed ∈ jw_tbl := jw_inT (jc_5 (List.mem_of_getElem? (i := 158) rfl)) rfl
set_option maxRecDepth 100000 in
theorem jt_1119 : Cond.code yX11_passed prog_1_method_39_code 1 (Option.some FieldType.long) ∈ jw_tbl := jw_inT (jc_5 (List.mem_of_getElem? (i := 159) rfl)) rfl
set_option maxRecDepth 100000 in
theorem jt_1120 : Cond.methodLink RX11 355 yX2_passRound ∈ jw_tbl := jw_inT (jc_5 (List.mem_of_getElem? (i := 160) rfl)) rfl
set_option maxRecDepth 100000 in
theorem jt_1121 : Cond.instanceMethod yX2_passRound ∈ jw_tbl := jw_inT (jc_5 (List.mem_of_getElem? (i := 161) rfl)) rfl
set_option maxRecDepth 100000 in
theorem jt_1122 : Cond.selects yX2_passRound.cls yX2_passRound yX2_passRound ∈ jw_tbl := jw_inT (jc_5 (List.mem_of_getElem? (i := 162) rfl)) rfl
set_option maxRecDepth 100000 in
theorem jt_1123 : Cond.code yX2_passRound prog_4_method_6_code 4 (Option.some FieldType.int) ∈ jw_tbl := jw_inT (jc_5 (List.mem_of_getElem? (i := 163) rfl)) rfl
set_option maxRecDepth 100000 in
theorem jt_1124 : Cond.methodLink RX2 30 yX2_firstRing ∈ jw_tbl := jw_inT (jc_5 (List.mem_of_getElem? (i := 164) rfl)) rfl
set_option maxRecDepth 100000 in
theorem jt_1126 : Cond.instanceMethod yX2_firstRing ∈ jw_tbl := jw_inT (jc_5 (List.mem_of_getElem? (i := 166) rfl)) rfl
set_option maxRecDepth 100000 in
theorem jt_1127 : Cond.code yX2_firstRing prog_4_method_7_code 4 (Option.some FieldType.int) ∈ jw_tbl := jw_inT (jc_5 (List.mem_of_getElem? (i := 167) rfl)) rfl
set_option maxRecDepth 100000 in
theorem jt_1128 : Cond.methodLink RX2 38 yX2_closes ∈ jw_tbl := jw_inT (jc_5 (List.mem_of_getElem? (i := 168) rfl)) rfl
set_option maxRecDepth 100000 in
theorem jt_1130 : Cond.instanceMethod yX2_closes ∈ jw_tbl := jw_inT (jc_5 (List.mem_of_getElem? (i := 170) rfl)) rfl
set_option maxRecDepth 100000 in
theorem jt_1131 : Cond.code yX2_closes prog_4_method_8_code 6 (Option.some FieldType.boolean) ∈ jw_tbl := jw_inT (jc_5 (List.mem_of_getElem? (i := 171) rfl)) rfl
set_option maxRecDepth 100000 in
theorem jt_1132 : Cond.methodLink RX2 42 yX2_sumOf ∈ jw_tbl := jw_inT (jc_5 (List.mem_of_getElem? (i := 172) rfl)) rfl
set_option maxRecDepth 100000 in
theorem jt_1133 : Cond.methodLink RX2 46 yX2_isInRing ∈ jw_tbl := jw_inT (jc_5 (List.mem_of_getElem? (i := 173) rfl)) rfl
set_option maxRecDepth 100000 in
theorem jt_1135 : Cond.instanceMethod yX2_isInRing ∈ jw_tbl := jw_inT (jc_5 (List.mem_of_getElem? (i := 175) rfl)) rfl
set_option maxRecDepth 100000 in
theorem jt_1136 : Cond.code yX2_isInRing prog_4_method_9_code 4 (Option.some FieldType.boolean) ∈ jw_tbl := jw_inT (jc_5 (List.mem_of_getElem? (i := 176) rfl)) rfl
set_option maxRecDepth 100000 in
theorem jt_1137 : Cond.methodLink RX2 34 yX2_lessen ∈ jw_tbl := jw_inT (jc_5 (List.mem_of_getElem? (i := 177) rfl)) rfl
set_option maxRecDepth 100000 in
theorem jt_1139 : Cond.instanceMethod yX2_lessen ∈ jw_tbl := jw_inT (jc_5 (List.mem_of_getElem? (i := 179) rfl)) rfl
set_option maxRecDepth 100000 in
theorem jt_1140 : Cond.code yX2_lessen prog_4_method_10_code 4 (Option.none : Option FieldType) ∈ jw_tbl := jw_inT (jc_5 (List.mem_of_getElem? (i := 180) rfl)) rfl
set_option maxRecDepth 100000 in
theorem jt_1141 : Cond.methodLink RX2 50 yX2_nextInRing ∈ jw_tbl := jw_inT (jc_5 (List.mem_of_getElem? (i := 181) rfl)) rfl
set_option maxRecDepth 100000 in
theorem jt_1143 : Cond.instanceMethod yX2_nextInRing ∈ jw_tbl := jw_inT (jc_5 (List.mem_of_getElem? (i := 183) rfl)) rfl
set_option maxRecDepth 100000 in
theorem jt_1144 : Cond.code yX2_nextInRing prog_4_method_11_code 3 (Option.some FieldType.int) ∈ jw_tbl := jw_inT (jc_5 (List.mem_of_getElem? (i := 184) rfl)) rfl
set_option maxRecDepth 100000 in
theorem jt_1145 : Cond.methodLink RX2 53 yJ9_min_7cf53 ∈ jw_tbl := jw_inT (jc_5 (List.mem_of_getElem? (i := 185) rfl)) rfl
set_option maxRecDepth 100000 in
theorem jt_1146 : Cond.methodLink RX2 58 yX2_change ∈ jw_tbl := jw_inT (jc_5 (List.mem_of_getElem? (i := 186) rfl)) rfl
set_option maxRecDepth 100000 in
theorem jt_1147 : Cond.methodLink RL 151 yX11_image ∈ jw_tbl := jw_inT (jc_5 (List.mem_of_getElem? (i := 187) rfl)) rfl
set_option maxRecDepth 100000 in
theorem jt_1148 : Cond.instanceMethod yX11_image ∈ jw_tbl := jw_inT (jc_5 (List.mem_of_getElem? (i := 188) rfl)) rfl
set_option maxRecDepth 100000 in
theorem jt_1149 : Cond.selects yX11_image.cls yX11_image yX11_image ∈ jw_tbl := jw_inT (jc_5 (List.mem_of_getElem? (i := 189) rfl)) rfl
set_option maxRecDepth 100000 in
theorem jt_1150 : Cond.code yX11_image prog_1_method_40_code 2 (Option.some FieldType.long) ∈ jw_tbl := jw_inT (jc_5 (List.mem_of_getElem? (i := 190) rfl)) rfl
set_option maxRecDepth 100000 in
theorem jt_1151 : Cond.methodLink RL 155 yX11_restore ∈ jw_tbl := jw_inT (jc_5 (List.mem_of_getElem? (i := 191) rfl)) rfl
set_option maxRecDepth 100000 in
theorem jt_1152 : Cond.instanceMethod yX11_restore ∈ jw_tbl := jw_inT (jc_5 (List.mem_of_getElem? (i := 192) rfl)) rfl
set_option maxRecDepth 100000 in
theorem jt_1153 : Cond.selects yX11_restore.cls yX11_restore yX11_restore ∈ jw_tbl := jw_inT (jc_5 (List.mem_of_getElem? (i := 193) rfl)) rfl
set_option maxRecDepth 100000 in
theorem jt_1154 : Cond.code yX11_restore prog_1_method_41_code 2 (Option.some FieldType.long) ∈ jw_tbl := jw_inT (jc_5 (List.mem_of_getElem? (i := 194) rfl)) rfl
set_option maxRecDepth 100000 in
theorem jt_1155 : Cond.methodLink RL 159 yX11_kind ∈ jw_tbl := jw_inT (jc_5 (List.mem_of_getElem? (i := 195) rfl)) rfl
set_option maxRecDepth 100000 in
theorem jt_1156 : Cond.instanceMethod yX11_kind ∈ jw_tbl := jw_inT (jc_5 (List.mem_of_getElem? (i := 196) rfl)) rfl
set_option maxRecDepth 100000 in
theorem jt_1157 : Cond.selects yX11_kind.cls yX11_kind yX11_kind ∈ jw_tbl := jw_inT (jc_5 (List.mem_of_getElem? (i := 197) rfl)) rfl
set_option maxRecDepth 100000 in
theorem jt_1158 : Cond.code yX11_kind prog_1_method_42_code 2 (Option.some FieldType.long) ∈ jw_tbl := jw_inT (jc_5 (List.mem_of_getElem? (i := 198) rfl)) rfl
set_option maxRecDepth 100000 in
theorem jt_1159 : Cond.methodLink RX11 358 yX0_kindOf ∈ jw_tbl := jw_inT (jc_5 (List.mem_of_getElem? (i := 199) rfl)) rfl
set_option maxRecDepth 100000 in
theorem jt_1160 : Cond.instanceMethod yX0_kindOf ∈ jw_tbl := jw_inT (jc_5 (List.mem_of_getElem? (i := 200) rfl)) rfl
set_option maxRecDepth 100000 in
theorem jt_1161 : Cond.selects yX0_kindOf.cls yX0_kindOf yX0_kindOf ∈ jw_tbl := jw_inT (jc_5 (List.mem_of_getElem? (i := 201) rfl)) rfl
set_option maxRecDepth 100000 in
theorem jt_1162 : Cond.code yX0_kindOf prog_2_method_2_code 3 (Option.some FieldType.int) ∈ jw_tbl := jw_inT (jc_5 (List.mem_of_getElem? (i := 202) rfl)) rfl
set_option maxRecDepth 100000 in
theorem jt_1163 : Cond.methodLink RX0 55 yX10_lossOf ∈ jw_tbl := jw_inT (jc_5 (List.mem_of_getElem? (i := 203) rfl)) rfl
set_option maxRecDepth 100000 in
theorem jt_1164 : Cond.methodLink RL 163 yX11_as ∈ jw_tbl := jw_inT (jc_5 (List.mem_of_getElem? (i := 204) rfl)) rfl
set_option maxRecDepth 100000 in
theorem jt_1165 : Cond.instanceMethod yX11_as ∈ jw_tbl := jw_inT (jc_5 (List.mem_of_getElem? (i := 205) rfl)) rfl
set_option maxRecDepth 100000 in
theorem jt_1166 : Cond.selects yX11_as.cls yX11_as yX11_as ∈ jw_tbl := jw_inT (jc_5 (List.mem_of_getElem? (i := 206) rfl)) rfl
set_option maxRecDepth 100000 in
theorem jt_1167 : Cond.code yX11_as prog_1_method_43_code 3 (Option.some FieldType.long) ∈ jw_tbl := jw_inT (jc_5 (List.mem_of_getElem? (i := 207) rfl)) rfl
set_option maxRecDepth 100000 in
theorem jt_1168 : Cond.methodLink RX11 361 yX0_isTakenAs ∈ jw_tbl := jw_inT (jc_5 (List.mem_of_getElem? (i := 208) rfl)) rfl
set_option maxRecDepth 100000 in
theorem jt_1169 : Cond.static yX0_isTakenAs ∈ jw_tbl := jw_inT (jc_5 (List.mem_of_getElem? (i := 209) rfl)) rfl
set_option maxRecDepth 100000 in
theorem jt_1170 : Cond.code yX0_isTakenAs prog_2_method_3_code 2 (Option.some FieldType.boolean) ∈ jw_tbl := jw_inT (jc_5 (List.mem_of_getElem? (i := 210) rfl)) rfl
set_option maxRecDepth 100000 in
theorem jt_1171 : Cond.methodLink RL 167 yX11_ask ∈ jw_tbl := jw_inT (jc_5 (List.mem_of_getElem? (i := 211) rfl)) rfl
set_option maxRecDepth 100000 in
theorem jt_1172 : Cond.instanceMethod yX11_ask ∈ jw_tbl := jw_inT (jc_5 (List.mem_of_getElem? (i := 212) rfl)) rfl
set_option maxRecDepth 100000 in
theorem jt_1173 : Cond.selects yX11_ask.cls yX11_ask yX11_ask ∈ jw_tbl := jw_inT (jc_5 (List.mem_of_getElem? (i := 213) rfl)) rfl
set_option maxRecDepth 100000 in
theorem jt_1174 : Cond.code yX11_ask prog_1_method_44_code 3 (Option.some FieldType.long) ∈ jw_tbl := jw_inT (jc_5 (List.mem_of_getElem? (i := 214) rfl)) rfl
set_option maxRecDepth 100000 in
theorem jt_1175 : Cond.methodLink RX11 364 yX0_answer ∈ jw_tbl := jw_inT (jc_5 (List.mem_of_getElem? (i := 215) rfl)) rfl
set_option maxRecDepth 100000 in
theorem jt_1176 : Cond.instanceMethod yX0_answer ∈ jw_tbl := jw_inT (jc_5 (List.mem_of_getElem? (i := 216) rfl)) rfl
set_option maxRecDepth 100000 in
theorem jt_1177 : Cond.selects yX0_answer.cls yX0_answer yX0_answer ∈ jw_tbl := jw_inT (jc_5 (List.mem_of_getElem? (i := 217) rfl)) rfl
set_option maxRecDepth 100000 in
theorem jt_1178 : Cond.code yX0_answer prog_2_method_4_code 4 (Option.some FieldType.int) ∈ jw_tbl := jw_inT (jc_5 (List.mem_of_getElem? (i := 218) rfl)) rfl
set_option maxRecDepth 100000 in
theorem jt_1179 : Cond.methodLink RX0 59 yX0_kindOf ∈ jw_tbl := jw_inT (jc_5 (List.mem_of_getElem? (i := 219) rfl)) rfl
set_option maxRecDepth 100000 in
theorem jt_1180 : Cond.fieldLink RX0 62 "StringsSheet$Asks" "SIZE_BODIES" "[I" ∈ jw_tbl := jw_inT (jc_5 (List.mem_of_getElem? (i := 220) rfl)) rfl
set_option maxRecDepth 100000 in
theorem jt_1182 : Cond.fieldLink RX0 65 "StringsSheet$Asks" "MARK_BODIES" "[I" ∈ jw_tbl := jw_inT (jc_5 (List.mem_of_getElem? (i := 222) rfl)) rfl
set_option maxRecDepth 100000 in
theorem jt_1184 : Cond.methodLink RX0 68 yX0_body ∈ jw_tbl := jw_inT (jc_5 (List.mem_of_getElem? (i := 224) rfl)) rfl
set_option maxRecDepth 100000 in
theorem jt_1186 : Cond.instanceMethod yX0_body ∈ jw_tbl := jw_inT (jc_5 (List.mem_of_getElem? (i := 226) rfl)) rfl
set_option maxRecDepth 100000 in
theorem jt_1187 : Cond.code yX0_body prog_2_method_5_code 5 (Option.some FieldType.int) ∈ jw_tbl := jw_inT (jc_5 (List.mem_of_getElem? (i := 227) rfl)) rfl
set_option maxRecDepth 100000 in
theorem jt_1188 : Cond.methodLink RX0 72 yX0_begins ∈ jw_tbl := jw_inT (jc_5 (List.mem_of_getElem? (i := 228) rfl)) rfl
set_option maxRecDepth 100000 in
theorem jt_1190 : Cond.instanceMethod yX0_begins ∈ jw_tbl := jw_inT (jc_5 (List.mem_of_getElem? (i := 230) rfl)) rfl
set_option maxRecDepth 100000 in
theorem jt_1191 : Cond.code yX0_begins prog_2_method_6_code 2 (Option.none : Option FieldType) ∈ jw_tbl := jw_inT (jc_5 (List.mem_of_getElem? (i := 231) rfl)) rfl
set_option maxRecDepth 100000 in
theorem jt_1192 : Cond.methodLink RX0 76 yX10_worthOf ∈ jw_tbl := jw_inT (jc_5 (List.mem_of_getElem? (i := 232) rfl)) rfl
set_option maxRecDepth 100000 in
theorem jt_1193 : Cond.methodLink RX0 79 yX7_minutesGone ∈ jw_tbl := jw_inT (jc_5 (List.mem_of_getElem? (i := 233) rfl)) rfl
set_option maxRecDepth 100000 in
theorem jt_1194 : Cond.methodLink RX0 82 yX10_fineOf ∈ jw_tbl := jw_inT (jc_5 (List.mem_of_getElem? (i := 234) rfl)) rfl
set_option maxRecDepth 100000 in
theorem jt_1195 : Cond.methodLink RL 171 yX11_trace ∈ jw_tbl := jw_inT (jc_5 (List.mem_of_getElem? (i := 235) rfl)) rfl
set_option maxRecDepth 100000 in
theorem jt_1196 : Cond.instanceMethod yX11_trace ∈ jw_tbl := jw_inT (jc_5 (List.mem_of_getElem? (i := 236) rfl)) rfl
set_option maxRecDepth 100000 in
theorem jt_1197 : Cond.selects yX11_trace.cls yX11_trace yX11_trace ∈ jw_tbl := jw_inT (jc_5 (List.mem_of_getElem? (i := 237) rfl)) rfl
set_option maxRecDepth 100000 in
theorem jt_1198 : Cond.code yX11_trace prog_1_method_45_code 2 (Option.some FieldType.int) ∈ jw_tbl := jw_inT (jc_5 (List.mem_of_getElem? (i := 238) rfl)) rfl
set_option maxRecDepth 100000 in
theorem jt_1199 : Cond.methodLink RX11 367 yX0_traced ∈ jw_tbl := jw_inT (jc_5 (List.mem_of_getElem? (i := 239) rfl)) rfl
set_option maxRecDepth 100000 in
theorem jt_1200 : Cond.instanceMethod yX0_traced ∈ jw_tbl := jw_inT (jc_6 (List.mem_of_getElem? (i := 0) rfl)) rfl
set_option maxRecDepth 100000 in
theorem jt_1201 : Cond.selects yX0_traced.cls yX0_traced yX0_traced ∈ jw_tbl := jw_inT (jc_6 (List.mem_of_getElem? (i := 1) rfl)) rfl
set_option maxRecDepth 100000 in
theorem jt_1202 : Cond.code yX0_traced prog_2_method_7_code 2 (Option.some FieldType.int) ∈ jw_tbl := jw_inT (jc_6 (List.mem_of_getElem? (i := 2) rfl)) rfl
set_option maxRecDepth 100000 in
theorem jt_1203 : Cond.constant RX0 85 (-1000000 : Int32) ∈ jw_tbl := jw_inT (jc_6 (List.mem_of_getElem? (i := 3) rfl)) rfl
set_option maxRecDepth 100000 in
theorem jt_1204 : Cond.methodLink RL 176 yX11_count ∈ jw_tbl := jw_inT (jc_6 (List.mem_of_getElem? (i := 4) rfl)) rfl
set_option maxRecDepth 100000 in
theorem jt_1205 : Cond.instanceMethod yX11_count ∈ jw_tbl := jw_inT (jc_6 (List.mem_of_getElem? (i := 5) rfl)) rfl
set_option maxRecDepth 100000 in
theorem jt_1206 : Cond.selects yX11_count.cls yX11_count yX11_count ∈ jw_tbl := jw_inT (jc_6 (List.mem_of_getElem? (i := 6) rfl)) rfl
set_option maxRecDepth 100000 in
theorem jt_1207 : Cond.code yX11_count prog_1_method_46_code 2 (Option.some FieldType.long) ∈ jw_tbl := jw_inT (jc_6 (List.mem_of_getElem? (i := 7) rfl)) rfl
set_option maxRecDepth 100000 in
theorem jt_1208 : Cond.methodLink RX11 370 yX6_howMany ∈ jw_tbl := jw_inT (jc_6 (List.mem_of_getElem? (i := 8) rfl)) rfl
set_option maxRecDepth 100000 in
theorem jt_1209 : Cond.instanceMethod yX6_howMany ∈ jw_tbl := jw_inT (jc_6 (List.mem_of_getElem? (i := 9) rfl)) rfl
set_option maxRecDepth 100000 in
theorem jt_1210 : Cond.selects yX6_howMany.cls yX6_howMany yX6_howMany ∈ jw_tbl := jw_inT (jc_6 (List.mem_of_getElem? (i := 10) rfl)) rfl
set_option maxRecDepth 100000 in
theorem jt_1211 : Cond.code yX6_howMany prog_8_method_12_code 3 (Option.some FieldType.int) ∈ jw_tbl := jw_inT (jc_6 (List.mem_of_getElem? (i := 11) rfl)) rfl
set_option maxRecDepth 100000 in
theorem jt_1212 : Cond.methodLink RX6 38 yX6_isMissing ∈ jw_tbl := jw_inT (jc_6 (List.mem_of_getElem? (i := 12) rfl)) rfl
set_option maxRecDepth 100000 in
theorem jt_1213 : Cond.methodLink RX11 372 yX9_pairsWithStreet ∈ jw_tbl := jw_inT (jc_6 (List.mem_of_getElem? (i := 13) rfl)) rfl
set_option maxRecDepth 100000 in
theorem jt_1214 : Cond.instanceMethod yX9_pairsWithStreet ∈ jw_tbl := jw_inT (jc_6 (List.mem_of_getElem? (i := 14) rfl)) rfl
set_option maxRecDepth 100000 in
theorem jt_1215 : Cond.selects yX9_pairsWithStreet.cls yX9_pairsWithStreet yX9_pairsWithStreet ∈ jw_tbl := jw_inT (jc_6 (List.mem_of_getElem? (i := 15) rfl)) rfl
set_option maxRecDepth 100000 in
theorem jt_1216 : Cond.code yX9_pairsWithStreet prog_11_method_15_code 4 (Option.some FieldType.int) ∈ jw_tbl := jw_inT (jc_6 (List.mem_of_getElem? (i := 16) rfl)) rfl
set_option maxRecDepth 100000 in
theorem jt_1217 : Cond.methodLink RX11 384 yX4_length ∈ jw_tbl := jw_inT (jc_6 (List.mem_of_getElem? (i := 17) rfl)) rfl
set_option maxRecDepth 100000 in
theorem jt_1218 : Cond.instanceMethod yX4_length ∈ jw_tbl := jw_inT (jc_6 (List.mem_of_getElem? (i := 18) rfl)) rfl
set_option maxRecDepth 100000 in
theorem jt_1219 : Cond.selects yX4_length.cls yX4_length yX4_length ∈ jw_tbl := jw_inT (jc_6 (List.mem_of_getElem? (i := 19) rfl)) rfl
set_option maxRecDepth 100000 in
theorem jt_1220 : Cond.code yX4_length prog_6_method_4_code 1 (Option.some FieldType.int) ∈ jw_tbl := jw_inT (jc_6 (List.mem_of_getElem? (i := 20) rfl)) rfl
set_option maxRecDepth 100000 in
theorem jt_1221 : Cond.methodLink RL 180 yX11_status ∈ jw_tbl := jw_inT (jc_6 (List.mem_of_getElem? (i := 21) rfl)) rfl
set_option maxRecDepth 100000 in
theorem jt_1222 : Cond.instanceMethod yX11_status ∈ jw_tbl := jw_inT (jc_6 (List.mem_of_getElem? (i := 22) rfl)) rfl
set_option maxRecDepth 100000 in
theorem jt_1223 : Cond.selects yX11_status.cls yX11_status yX11_status ∈ jw_tbl := jw_inT (jc_6 (List.mem_of_getElem? (i := 23) rfl)) rfl
set_option maxRecDepth 100000 in
theorem jt_1224 : Cond.code yX11_status prog_1_method_47_code 1 (Option.some FieldType.int) ∈ jw_tbl := jw_inT (jc_6 (List.mem_of_getElem? (i := 24) rfl)) rfl
set_option maxRecDepth 100000 in
theorem jt_1225 : Cond.classLink RL 10 RX12 ∈ jw_tbl := jw_inT (jc_6 (List.mem_of_getElem? (i := 25) rfl)) rfl
set_option maxRecDepth 100000 in
theorem jt_1226 : Cond.instantiable RX12 35 ∈ jw_tbl := jw_inT (jc_6 (List.mem_of_getElem? (i := 26) rfl)) rfl
set_option maxRecDepth 100000 in
theorem jt_1227 : Cond.methodLink RL 12 yX12_init ∈ jw_tbl := jw_inT (jc_6 (List.mem_of_getElem? (i := 27) rfl)) rfl
set_option maxRecDepth 100000 in
theorem jt_1228 : Cond.instanceMethod yX12_init ∈ jw_tbl := jw_inT (jc_6 (List.mem_of_getElem? (i := 28) rfl)) rfl
set_option maxRecDepth 100000 in
theorem jt_1229 : Cond.code yX12_init prog_14_method_1_code 1 (Option.none : Option FieldType) ∈ jw_tbl := jw_inT (jc_6 (List.mem_of_getElem? (i := 29) rfl)) rfl
set_option maxRecDepth 100000 in
theorem jt_1230 : Cond.methodLink RX12 3 Lib.objectInit ∈ jw_tbl := jw_inT (jc_6 (List.mem_of_getElem? (i := 30) rfl)) rfl
set_option maxRecDepth 100000 in
theorem jt_1231 : Cond.fieldLink RX12 71 "StringsSheetModel" "thrown" "I" ∈ jw_tbl := jw_inT (jc_6 (List.mem_of_getElem? (i := 31) rfl)) rfl
set_option maxRecDepth 100000 in
theorem jt_1232 : Cond.fieldLink RX12 75 "StringsSheetModel" "status" "I" ∈ jw_tbl := jw_inT (jc_6 (List.mem_of_getElem? (i := 32) rfl)) rfl
set_option maxRecDepth 100000 in
theorem jt_1233 : Cond.fieldLink RX12 9 "StringsSheetModel" "lane" "[I" ∈ jw_tbl := jw_inT (jc_6 (List.mem_of_getElem? (i := 33) rfl)) rfl
set_option maxRecDepth 100000 in
theorem jt_1234 : Cond.fieldLink RX12 13 "StringsSheetModel" "many" "[I" ∈ jw_tbl := jw_inT (jc_6 (List.mem_of_getElem? (i := 34) rfl)) rfl
set_option maxRecDepth 100000 in
theorem jt_1235 : Cond.fieldLink RX12 16 "StringsSheetModel" "item" "[I" ∈ jw_tbl := jw_inT (jc_6 (List.mem_of_getElem? (i := 35) rfl)) rfl
set_option maxRecDepth 100000 in
theorem jt_1236 : Cond.fieldLink RX12 19 "StringsSheetModel" "told" "[I" ∈ jw_tbl := jw_inT (jc_6 (List.mem_of_getElem? (i := 36) rfl)) rfl
set_option maxRecDepth 100000 in
theorem jt_1237 : Cond.fieldLink RX12 22 "StringsSheetModel" "fresh" "[I" ∈ jw_tbl := jw_inT (jc_6 (List.mem_of_getElem? (i := 37) rfl)) rfl
set_option maxRecDepth 100000 in
theorem jt_1238 : Cond.fieldLink RX12 216 "StringsSheetModel" "isThere" "Z" ∈ jw_tbl := jw_inT (jc_6 (List.mem_of_getElem? (i := 38) rfl)) rfl
set_option maxRecDepth 100000 in
theorem jt_1239 : Cond.fieldLink RX12 25 "StringsSheetModel" "now" "[I" ∈ jw_tbl := jw_inT (jc_6 (List.mem_of_getElem? (i := 39) rfl)) rfl
set_option maxRecDepth 100000 in
theorem jt_1240 : Cond.fieldLink RX12 28 "StringsSheetModel" "tape" "[I" ∈ jw_tbl := jw_inT (jc_6 (List.mem_of_getElem? (i := 40) rfl)) rfl
set_option maxRecDepth 100000 in
theorem jt_1241 : Cond.fieldLink RX12 100 "StringsSheetModel" "taped" "I" ∈ jw_tbl := jw_inT (jc_6 (List.mem_of_getElem? (i := 41) rfl)) rfl
set_option maxRecDepth 100000 in
theorem jt_1242 : Cond.fieldLink RX12 211 "StringsSheetModel" "latest" "I" ∈ jw_tbl := jw_inT (jc_6 (List.mem_of_getElem? (i := 42) rfl)) rfl
set_option maxRecDepth 100000 in
theorem jt_1243 : Cond.fieldLink RX12 107 "StringsSheetModel" "length" "I" ∈ jw_tbl := jw_inT (jc_6 (List.mem_of_getElem? (i := 43) rfl)) rfl
set_option maxRecDepth 100000 in
theorem jt_1244 : Cond.fieldLink RX12 111 "StringsSheetModel" "cursor" "I" ∈ jw_tbl := jw_inT (jc_6 (List.mem_of_getElem? (i := 44) rfl)) rfl
set_option maxRecDepth 100000 in
theorem jt_1245 : Cond.fieldLink RX12 121 "StringsSheetModel" "token" "I" ∈ jw_tbl := jw_inT (jc_6 (List.mem_of_getElem? (i := 45) rfl)) rfl
set_option maxRecDepth 100000 in
theorem jt_1246 : Cond.fieldLink RX12 118 "StringsSheetModel" "from" "I" ∈ jw_tbl := jw_inT (jc_6 (List.mem_of_getElem? (i := 46) rfl)) rfl
set_option maxRecDepth 100000 in
theorem jt_1247 : Cond.fieldLink RX12 130 "StringsSheetModel" "till" "I" ∈ jw_tbl := jw_inT (jc_6 (List.mem_of_getElem? (i := 47) rfl)) rfl
set_option maxRecDepth 100000 in
theorem jt_1248 : Cond.fieldLink RX12 133 "StringsSheetModel" "fault" "I" ∈ jw_tbl := jw_inT (jc_6 (List.mem_of_getElem? (i := 48) rfl)) rfl
set_option maxRecDepth 100000 in
theorem jt_1249 : Cond.fieldLink RX12 136 "StringsSheetModel" "faultAt" "I" ∈ jw_tbl := jw_inT (jc_6 (List.mem_of_getElem? (i := 49) rfl)) rfl
set_option maxRecDepth 100000 in
theorem jt_1250 : Cond.fieldLink RX12 31 "StringsSheetModel" "walk" "[I" ∈ jw_tbl := jw_inT (jc_6 (List.mem_of_getElem? (i := 50) rfl)) rfl
set_option maxRecDepth 100000 in
theorem jt_1251 : Cond.fieldLink RX12 34 "StringsSheetModel" "heard" "[I" ∈ jw_tbl := jw_inT (jc_6 (List.mem_of_getElem? (i := 51) rfl)) rfl
set_option maxRecDepth 100000 in
theorem jt_1252 : Cond.fieldLink RX12 37 "StringsSheetModel" "comes" "[I" ∈ jw_tbl := jw_inT (jc_6 (List.mem_of_getElem? (i := 52) rfl)) rfl
set_option maxRecDepth 100000 in
theorem jt_1253 : Cond.fieldLink RX12 40 "StringsSheetModel" "was" "[I" ∈ jw_tbl := jw_inT (jc_6 (List.mem_of_getElem? (i := 53) rfl)) rfl
set_option maxRecDepth 100000 in
theorem jt_1254 : Cond.fieldLink RX12 43 "StringsSheetModel" "cellar" "[I" ∈ jw_tbl := jw_inT (jc_6 (List.mem_of_getElem? (i := 54) rfl)) rfl
set_option maxRecDepth 100000 in
theorem jt_1255 : Cond.fieldLink RX12 46 "StringsSheetModel" "bestCellar" "[I" ∈ jw_tbl := jw_inT (jc_6 (List.mem_of_getElem? (i := 55) rfl)) rfl
set_option maxRecDepth 100000 in
theorem jt_1256 : Cond.fieldLink RX12 49 "StringsSheetModel" "room" "[I" ∈ jw_tbl := jw_inT (jc_6 (List.mem_of_getElem? (i := 56) rfl)) rfl
set_option maxRecDepth 100000 in
theorem jt_1257 : Cond.fieldLink RX12 52 "StringsSheetModel" "before" "[I" ∈ jw_tbl := jw_inT (jc_6 (List.mem_of_getElem? (i := 57) rfl)) rfl
set_option maxRecDepth 100000 in
theorem jt_1258 : Cond.fieldLink RX12 322 "StringsSheetModel" "valueUp" "J" ∈ jw_tbl := jw_inT (jc_6 (List.mem_of_getElem? (i := 58) rfl)) rfl
set_option maxRecDepth 100000 in
theorem jt_1259 : Cond.fieldLink RX12 326 "StringsSheetModel" "valueBy" "J" ∈ jw_tbl := jw_inT (jc_6 (List.mem_of_getElem? (i := 59) rfl)) rfl
set_option maxRecDepth 100000 in
theorem jt_1260 : Cond.fieldLink RX12 55 "StringsSheetModel" "ring" "[I" ∈ jw_tbl := jw_inT (jc_6 (List.mem_of_getElem? (i := 60) rfl)) rfl
set_option maxRecDepth 100000 in
theorem jt_1261 : Cond.fieldLink RX12 58 "StringsSheetModel" "isKept" "[Z" ∈ jw_tbl := jw_inT (jc_6 (List.mem_of_getElem? (i := 61) rfl)) rfl
set_option maxRecDepth 100000 in
theorem jt_1262 : Cond.fieldLink RX12 62 "StringsSheetModel" "keptTold" "[I" ∈ jw_tbl := jw_inT (jc_6 (List.mem_of_getElem? (i := 62) rfl)) rfl
set_option maxRecDepth 100000 in
theorem jt_1263 : Cond.fieldLink RX12 65 "StringsSheetModel" "keptNow" "[I" ∈ jw_tbl := jw_inT (jc_6 (List.mem_of_getElem? (i := 63) rfl)) rfl
set_option maxRecDepth 100000 in
theorem jt_1264 : Cond.fieldLink RX12 68 "StringsSheetModel" "trace" "[I" ∈ jw_tbl := jw_inT (jc_6 (List.mem_of_getElem? (i := 64) rfl)) rfl
set_option maxRecDepth 100000 in
theorem jt_1265 : Cond.fieldLink RX12 355 "StringsSheetModel" "traced" "I" ∈ jw_tbl := jw_inT (jc_6 (List.mem_of_getElem? (i := 65) rfl)) rfl
set_option maxRecDepth 100000 in
theorem jt_1337 : Cond.methodLink RL 17 yX12_row ∈ jw_tbl := jw_inT (jc_6 (List.mem_of_getElem? (i := 137) rfl)) rfl
set_option maxRecDepth 100000 in
theorem jt_1338 : Cond.instanceMethod yX12_row ∈ jw_tbl := jw_inT (jc_6 (List.mem_of_getElem? (i := 138) rfl)) rfl
set_option maxRecDepth 100000 in
theorem jt_1339 : Cond.selects yX12_row.cls yX12_row yX12_row ∈ jw_tbl := jw_inT (jc_6 (List.mem_of_getElem? (i := 139) rfl)) rfl
set_option maxRecDepth 100000 in
theorem jt_1340 : Cond.code yX12_row prog_14_method_6_code 5 (Option.some FieldType.long) ∈ jw_tbl := jw_inT (jc_6 (List.mem_of_getElem? (i := 140) rfl)) rfl
set_option maxRecDepth 100000 in
theorem jt_1341 : Cond.methodLink RX12 86 yX12_isRow ∈ jw_tbl := jw_inT (jc_6 (List.mem_of_getElem? (i := 141) rfl)) rfl
set_option maxRecDepth 100000 in
theorem jt_1342 : Cond.static yX12_isRow ∈ jw_tbl := jw_inT (jc_6 (List.mem_of_getElem? (i := 142) rfl)) rfl
set_option maxRecDepth 100000 in
theorem jt_1343 : Cond.code yX12_isRow prog_14_method_5_code 1 (Option.some FieldType.boolean) ∈ jw_tbl := jw_inT (jc_6 (List.mem_of_getElem? (i := 143) rfl)) rfl
set_option maxRecDepth 100000 in
theorem jt_1344 : Cond.constantLong RX12 80 (7 : Int64) ∈ jw_tbl := jw_inT (jc_6 (List.mem_of_getElem? (i := 144) rfl)) rfl
set_option maxRecDepth 100000 in
theorem jt_1345 : Cond.methodLink RX12 82 yX12_in ∈ jw_tbl := jw_inT (jc_6 (List.mem_of_getElem? (i := 145) rfl)) rfl
set_option maxRecDepth 100000 in
theorem jt_1346 : Cond.static yX12_in ∈ jw_tbl := jw_inT (jc_6 (List.mem_of_getElem? (i := 146) rfl)) rfl
set_option maxRecDepth 100000 in
theorem jt_1347 : Cond.code yX12_in prog_14_method_3_code 6 (Option.some FieldType.boolean) ∈ jw_tbl := jw_inT (jc_6 (List.mem_of_getElem? (i := 147) rfl)) rfl
set_option maxRecDepth 100000 in
theorem jt_1348 : Cond.constantLong RX12 90 (2 : Int64) ∈ jw_tbl := jw_inT (jc_6 (List.mem_of_getElem? (i := 148) rfl)) rfl
set_option maxRecDepth 100000 in
theorem jt_1349 : Cond.constantLong RX12 92 (-9000000000000000001 : Int64) ∈ jw_tbl := jw_inT (jc_6 (List.mem_of_getElem? (i := 149) rfl)) rfl
set_option maxRecDepth 100000 in
theorem jt_1350 : Cond.methodLink RX12 94 yX12_finding ∈ jw_tbl := jw_inT (jc_6 (List.mem_of_getElem? (i := 150) rfl)) rfl
set_option maxRecDepth 100000 in
theorem jt_1352 : Cond.instanceMethod yX12_finding ∈ jw_tbl := jw_inT (jc_6 (List.mem_of_getElem? (i := 152) rfl)) rfl
set_option maxRecDepth 100000 in
theorem jt_1353 : Cond.code yX12_finding prog_14_method_4_code 2 (Option.some FieldType.long) ∈ jw_tbl := jw_inT (jc_6 (List.mem_of_getElem? (i := 153) rfl)) rfl
set_option maxRecDepth 100000 in
theorem jt_1354 : Cond.constantLong RX12 78 (-9000000000000000010 : Int64) ∈ jw_tbl := jw_inT (jc_6 (List.mem_of_getElem? (i := 154) rfl)) rfl
set_option maxRecDepth 100000 in
theorem jt_1355 : Cond.methodLink RL 21 yX12_set ∈ jw_tbl := jw_inT (jc_6 (List.mem_of_getElem? (i := 155) rfl)) rfl
set_option maxRecDepth 100000 in
theorem jt_1356 : Cond.instanceMethod yX12_set ∈ jw_tbl := jw_inT (jc_6 (List.mem_of_getElem? (i := 156) rfl)) rfl
set_option maxRecDepth 100000 in
theorem jt_1357 : Cond.selects yX12_set.cls yX12_set yX12_set ∈ jw_tbl := jw_inT (jc_6 (List.mem_of_getElem? (i := 157) rfl)) rfl
set_option maxRecDepth 100000 in
theorem jt_1358 : Cond.code yX12_set prog_14_method_7_code 4 (Option.some FieldType.long) ∈ jw_tbl := jw_inT (jc_6 (List.mem_of_getElem? (i := 158) rfl)) rfl
set_option maxRecDepth 100000 in
theorem jt_1359 : Cond.methodLink RL 26 yX12_copy ∈ jw_tbl := jw_inT (jc_6 (List.mem_of_getElem? (i := 159) rfl)) rfl
set_option maxRecDepth 100000 in
theorem jt_1360 : Cond.instanceMethod yX12_copy ∈ jw_tbl := jw_inT (jc_6 (List.mem_of_getElem? (i := 160) rfl)) rfl
set_option maxRecDepth 100000 in
theorem jt_1361 : Cond.selects yX12_copy.cls yX12_copy yX12_copy ∈ jw_tbl := jw_inT (jc_6 (List.mem_of_getElem? (i := 161) rfl)) rfl
set_option maxRecDepth 100000 in
theorem jt_1362 : Cond.code yX12_copy prog_14_method_8_code 9 (Option.some FieldType.long) ∈ jw_tbl := jw_inT (jc_6 (List.mem_of_getElem? (i := 162) rfl)) rfl
set_option maxRecDepth 100000 in
theorem jt_1363 : Cond.methodLink RL 31 yX12_drop ∈ jw_tbl := jw_inT (jc_6 (List.mem_of_getElem? (i := 163) rfl)) rfl
set_option maxRecDepth 100000 in
theorem jt_1364 : Cond.instanceMethod yX12_drop ∈ jw_tbl := jw_inT (jc_6 (List.mem_of_getElem? (i := 164) rfl)) rfl
set_option maxRecDepth 100000 in
theorem jt_1365 : Cond.selects yX12_drop.cls yX12_drop yX12_drop ∈ jw_tbl := jw_inT (jc_6 (List.mem_of_getElem? (i := 165) rfl)) rfl
set_option maxRecDepth 100000 in
theorem jt_1366 : Cond.code yX12_drop prog_14_method_9_code 2 (Option.some FieldType.long) ∈ jw_tbl := jw_inT (jc_6 (List.mem_of_getElem? (i := 166) rfl)) rfl
set_option maxRecDepth 100000 in
theorem jt_1367 : Cond.methodLink RL 38 yX12_feed ∈ jw_tbl := jw_inT (jc_6 (List.mem_of_getElem? (i := 167) rfl)) rfl
set_option maxRecDepth 100000 in
theorem jt_1368 : Cond.instanceMethod yX12_feed ∈ jw_tbl := jw_inT (jc_6 (List.mem_of_getElem? (i := 168) rfl)) rfl
set_option maxRecDepth 100000 in
theorem jt_1369 : Cond.selects yX12_feed.cls yX12_feed yX12_feed ∈ jw_tbl := jw_inT (jc_6 (List.mem_of_getElem? (i := 169) rfl)) rfl
set_option maxRecDepth 100000 in
theorem jt_1370 : Cond.code yX12_feed prog_14_method_10_code 5 (Option.some FieldType.long) ∈ jw_tbl := jw_inT (jc_6 (List.mem_of_getElem? (i := 170) rfl)) rfl
set_option maxRecDepth 100000 in
theorem jt_1371 : Cond.constantLong RX12 98 (8 : Int64) ∈ jw_tbl := jw_inT (jc_6 (List.mem_of_getElem? (i := 171) rfl)) rfl
set_option maxRecDepth 100000 in
theorem jt_1372 : Cond.constantLong RX12 103 (-9000000000000000003 : Int64) ∈ jw_tbl := jw_inT (jc_6 (List.mem_of_getElem? (i := 172) rfl)) rfl
set_option maxRecDepth 100000 in
theorem jt_1373 : Cond.constantLong RX12 105 (255 : Int64) ∈ jw_tbl := jw_inT (jc_6 (List.mem_of_getElem? (i := 173) rfl)) rfl
set_option maxRecDepth 100000 in
theorem jt_1374 : Cond.methodLink RL 43 yX12_pavement ∈ jw_tbl := jw_inT (jc_6 (List.mem_of_getElem? (i := 174) rfl)) rfl
set_option maxRecDepth 100000 in
theorem jt_1375 : Cond.instanceMethod yX12_pavement ∈ jw_tbl := jw_inT (jc_6 (List.mem_of_getElem? (i := 175) rfl)) rfl
set_option maxRecDepth 100000 in
theorem jt_1376 : Cond.selects yX12_pavement.cls yX12_pavement yX12_pavement ∈ jw_tbl := jw_inT (jc_6 (List.mem_of_getElem? (i := 176) rfl)) rfl
set_option maxRecDepth 100000 in
theorem jt_1377 : Cond.code yX12_pavement prog_14_method_31_code 2 (Option.some FieldType.long) ∈ jw_tbl := jw_inT (jc_6 (List.mem_of_getElem? (i := 177) rfl)) rfl
set_option maxRecDepth 100000 in
theorem jt_1378 : Cond.methodLink RX12 143 yX12_next ∈ jw_tbl := jw_inT (jc_6 (List.mem_of_getElem? (i := 178) rfl)) rfl
set_option maxRecDepth 100000 in
theorem jt_1380 : Cond.instanceMethod yX12_next ∈ jw_tbl := jw_inT (jc_6 (List.mem_of_getElem? (i := 180) rfl)) rfl
set_option maxRecDepth 100000 in
theorem jt_1381 : Cond.code yX12_next prog_14_method_14_code 2 (Option.none : Option FieldType) ∈ jw_tbl := jw_inT (jc_6 (List.mem_of_getElem? (i := 181) rfl)) rfl
set_option maxRecDepth 100000 in
theorem jt_1382 : Cond.methodLink RX12 114 yX12_byteAt ∈ jw_tbl := jw_inT (jc_6 (List.mem_of_getElem? (i := 182) rfl)) rfl
set_option maxRecDepth 100000 in
theorem jt_1384 : Cond.instanceMethod yX12_byteAt ∈ jw_tbl := jw_inT (jc_6 (List.mem_of_getElem? (i := 184) rfl)) rfl
set_option maxRecDepth 100000 in
theorem jt_1385 : Cond.code yX12_byteAt prog_14_method_11_code 2 (Option.some FieldType.int) ∈ jw_tbl := jw_inT (jc_6 (List.mem_of_getElem? (i := 185) rfl)) rfl
set_option maxRecDepth 100000 in
theorem jt_1386 : Cond.constant RX12 110 (-1000000 : Int32) ∈ jw_tbl := jw_inT (jc_6 (List.mem_of_getElem? (i := 186) rfl)) rfl
set_option maxRecDepth 100000 in
theorem jt_1387 : Cond.methodLink RX12 124 yX12_isLetter ∈ jw_tbl := jw_inT (jc_6 (List.mem_of_getElem? (i := 187) rfl)) rfl
set_option maxRecDepth 100000 in
theorem jt_1388 : Cond.static yX12_isLetter ∈ jw_tbl := jw_inT (jc_6 (List.mem_of_getElem? (i := 188) rfl)) rfl
set_option maxRecDepth 100000 in
theorem jt_1389 : Cond.code yX12_isLetter prog_14_method_12_code 1 (Option.some FieldType.boolean) ∈ jw_tbl := jw_inT (jc_6 (List.mem_of_getElem? (i := 189) rfl)) rfl
set_option maxRecDepth 100000 in
theorem jt_1390 : Cond.methodLink RX12 127 yX12_isFigure ∈ jw_tbl := jw_inT (jc_6 (List.mem_of_getElem? (i := 190) rfl)) rfl
set_option maxRecDepth 100000 in
theorem jt_1391 : Cond.static yX12_isFigure ∈ jw_tbl := jw_inT (jc_6 (List.mem_of_getElem? (i := 191) rfl)) rfl
set_option maxRecDepth 100000 in
theorem jt_1392 : Cond.code yX12_isFigure prog_14_method_13_code 1 (Option.some FieldType.boolean) ∈ jw_tbl := jw_inT (jc_6 (List.mem_of_getElem? (i := 192) rfl)) rfl
set_option maxRecDepth 100000 in
theorem jt_1393 : Cond.methodLink RX12 169 yX12_word ∈ jw_tbl := jw_inT (jc_6 (List.mem_of_getElem? (i := 193) rfl)) rfl
set_option maxRecDepth 100000 in
theorem jt_1395 : Cond.instanceMethod yX12_word ∈ jw_tbl := jw_inT (jc_6 (List.mem_of_getElem? (i := 195) rfl)) rfl
set_option maxRecDepth 100000 in
theorem jt_1396 : Cond.code yX12_word prog_14_method_17_code 4 (Option.some FieldType.long) ∈ jw_tbl := jw_inT (jc_6 (List.mem_of_getElem? (i := 196) rfl)) rfl
set_option maxRecDepth 100000 in
theorem jt_1397 : Cond.constantLong RX12 193 (109330312357234 : Int64) ∈ jw_tbl := jw_inT (jc_6 (List.mem_of_getElem? (i := 197) rfl)) rfl
set_option maxRecDepth 100000 in
theorem jt_1398 : Cond.methodLink RX12 139 yX12_bad ∈ jw_tbl := jw_inT (jc_6 (List.mem_of_getElem? (i := 198) rfl)) rfl
set_option maxRecDepth 100000 in
theorem jt_1400 : Cond.instanceMethod yX12_bad ∈ jw_tbl := jw_inT (jc_6 (List.mem_of_getElem? (i := 200) rfl)) rfl
set_option maxRecDepth 100000 in
theorem jt_1401 : Cond.code yX12_bad prog_14_method_15_code 2 (Option.none : Option FieldType) ∈ jw_tbl := jw_inT (jc_6 (List.mem_of_getElem? (i := 201) rfl)) rfl
set_option maxRecDepth 100000 in
theorem jt_1402 : Cond.methodLink RX12 195 yX12_readCorner ∈ jw_tbl := jw_inT (jc_6 (List.mem_of_getElem? (i := 202) rfl)) rfl
set_option maxRecDepth 100000 in
theorem jt_1404 : Cond.instanceMethod yX12_readCorner ∈ jw_tbl := jw_inT (jc_6 (List.mem_of_getElem? (i := 204) rfl)) rfl
set_option maxRecDepth 100000 in
theorem jt_1405 : Cond.code yX12_readCorner prog_14_method_23_code 3 (Option.none : Option FieldType) ∈ jw_tbl := jw_inT (jc_6 (List.mem_of_getElem? (i := 205) rfl)) rfl
set_option maxRecDepth 100000 in
theorem jt_1406 : Cond.methodLink RX12 158 yX12_begins ∈ jw_tbl := jw_inT (jc_6 (List.mem_of_getElem? (i := 206) rfl)) rfl
set_option maxRecDepth 100000 in
theorem jt_1408 : Cond.instanceMethod yX12_begins ∈ jw_tbl := jw_inT (jc_6 (List.mem_of_getElem? (i := 208) rfl)) rfl
set_option maxRecDepth 100000 in
theorem jt_1409 : Cond.code yX12_begins prog_14_method_21_code 3 (Option.none : Option FieldType) ∈ jw_tbl := jw_inT (jc_6 (List.mem_of_getElem? (i := 209) rfl)) rfl
set_option maxRecDepth 100000 in
theorem jt_1410 : Cond.methodLink RX12 146 yX12_must ∈ jw_tbl := jw_inT (jc_6 (List.mem_of_getElem? (i := 210) rfl)) rfl
set_option maxRecDepth 100000 in
theorem jt_1412 : Cond.instanceMethod yX12_must ∈ jw_tbl := jw_inT (jc_6 (List.mem_of_getElem? (i := 212) rfl)) rfl
set_option maxRecDepth 100000 in
theorem jt_1413 : Cond.code yX12_must prog_14_method_16_code 2 (Option.none : Option FieldType) ∈ jw_tbl := jw_inT (jc_6 (List.mem_of_getElem? (i := 213) rfl)) rfl
set_option maxRecDepth 100000 in
theorem jt_1414 : Cond.methodLink RX12 154 yX12_number ∈ jw_tbl := jw_inT (jc_6 (List.mem_of_getElem? (i := 214) rfl)) rfl
set_option maxRecDepth 100000 in
theorem jt_1416 : Cond.instanceMethod yX12_number ∈ jw_tbl := jw_inT (jc_6 (List.mem_of_getElem? (i := 216) rfl)) rfl
set_option maxRecDepth 100000 in
theorem jt_1417 : Cond.code yX12_number prog_14_method_19_code 3 (Option.some FieldType.int) ∈ jw_tbl := jw_inT (jc_6 (List.mem_of_getElem? (i := 217) rfl)) rfl
set_option maxRecDepth 100000 in
theorem jt_1418 : Cond.methodLink RX12 150 yX12_numberBut ∈ jw_tbl := jw_inT (jc_6 (List.mem_of_getElem? (i := 218) rfl)) rfl
set_option maxRecDepth 100000 in
theorem jt_1420 : Cond.instanceMethod yX12_numberBut ∈ jw_tbl := jw_inT (jc_6 (List.mem_of_getElem? (i := 220) rfl)) rfl
set_option maxRecDepth 100000 in
theorem jt_1421 : Cond.code yX12_numberBut prog_14_method_18_code 6 (Option.some FieldType.int) ∈ jw_tbl := jw_inT (jc_6 (List.mem_of_getElem? (i := 221) rfl)) rfl
set_option maxRecDepth 100000 in
theorem jt_1422 : Cond.methodLink RX12 162 yX12_ends ∈ jw_tbl := jw_inT (jc_6 (List.mem_of_getElem? (i := 222) rfl)) rfl
set_option maxRecDepth 100000 in
theorem jt_1424 : Cond.instanceMethod yX12_ends ∈ jw_tbl := jw_inT (jc_6 (List.mem_of_getElem? (i := 224) rfl)) rfl
set_option maxRecDepth 100000 in
theorem jt_1425 : Cond.code yX12_ends prog_14_method_22_code 2 (Option.some FieldType.boolean) ∈ jw_tbl := jw_inT (jc_6 (List.mem_of_getElem? (i := 225) rfl)) rfl
set_option maxRecDepth 100000 in
theorem jt_1426 : Cond.constantLong RX12 198 (126943972648308 : Int64) ∈ jw_tbl := jw_inT (jc_6 (List.mem_of_getElem? (i := 226) rfl)) rfl
set_option maxRecDepth 100000 in
theorem jt_1427 : Cond.methodLink RX12 200 yX12_readStreet ∈ jw_tbl := jw_inT (jc_6 (List.mem_of_getElem? (i := 227) rfl)) rfl
set_option maxRecDepth 100000 in
theorem jt_1429 : Cond.instanceMethod yX12_readStreet ∈ jw_tbl := jw_inT (jc_6 (List.mem_of_getElem? (i := 229) rfl)) rfl
set_option maxRecDepth 100000 in
theorem jt_1430 : Cond.code yX12_readStreet prog_14_method_24_code 6 (Option.none : Option FieldType) ∈ jw_tbl := jw_inT (jc_6 (List.mem_of_getElem? (i := 230) rfl)) rfl
set_option maxRecDepth 100000 in
theorem jt_1431 : Cond.methodLink RX12 165 yX12_corner ∈ jw_tbl := jw_inT (jc_6 (List.mem_of_getElem? (i := 231) rfl)) rfl
set_option maxRecDepth 100000 in
theorem jt_1433 : Cond.instanceMethod yX12_corner ∈ jw_tbl := jw_inT (jc_6 (List.mem_of_getElem? (i := 233) rfl)) rfl
set_option maxRecDepth 100000 in
theorem jt_1434 : Cond.code yX12_corner prog_14_method_20_code 1 (Option.some FieldType.int) ∈ jw_tbl := jw_inT (jc_6 (List.mem_of_getElem? (i := 234) rfl)) rfl
set_option maxRecDepth 100000 in
theorem jt_1435 : Cond.constantLong RX12 203 (444251202675 : Int64) ∈ jw_tbl := jw_inT (jc_6 (List.mem_of_getElem? (i := 235) rfl)) rfl
set_option maxRecDepth 100000 in
theorem jt_1436 : Cond.methodLink RX12 205 yX12_readGoods ∈ jw_tbl := jw_inT (jc_6 (List.mem_of_getElem? (i := 236) rfl)) rfl
set_option maxRecDepth 100000 in
theorem jt_1438 : Cond.instanceMethod yX12_readGoods ∈ jw_tbl := jw_inT (jc_6 (List.mem_of_getElem? (i := 238) rfl)) rfl
set_option maxRecDepth 100000 in
theorem jt_1439 : Cond.code yX12_readGoods prog_14_method_25_code 5 (Option.none : Option FieldType) ∈ jw_tbl := jw_inT (jc_6 (List.mem_of_getElem? (i := 239) rfl)) rfl
set_option maxRecDepth 100000 in
theorem jt_1440 : Cond.methodLink RX12 208 yX12_readPeople ∈ jw_tbl := jw_inT (jc_7 (List.mem_of_getElem? (i := 0) rfl)) rfl
set_option maxRecDepth 100000 in
theorem jt_1442 : Cond.instanceMethod yX12_readPeople ∈ jw_tbl := jw_inT (jc_7 (List.mem_of_getElem? (i := 2) rfl)) rfl
set_option maxRecDepth 100000 in
theorem jt_1443 : Cond.code yX12_readPeople prog_14_method_30_code 1 (Option.none : Option FieldType) ∈ jw_tbl := jw_inT (jc_7 (List.mem_of_getElem? (i := 3) rfl)) rfl
set_option maxRecDepth 100000 in
theorem jt_1444 : Cond.constantLong RX12 173 (126879447934322 : Int64) ∈ jw_tbl := jw_inT (jc_7 (List.mem_of_getElem? (i := 4) rfl)) rfl
set_option maxRecDepth 100000 in
theorem jt_1445 : Cond.methodLink RX12 175 yX12_readSeller ∈ jw_tbl := jw_inT (jc_7 (List.mem_of_getElem? (i := 5) rfl)) rfl
set_option maxRecDepth 100000 in
theorem jt_1447 : Cond.instanceMethod yX12_readSeller ∈ jw_tbl := jw_inT (jc_7 (List.mem_of_getElem? (i := 7) rfl)) rfl
set_option maxRecDepth 100000 in
theorem jt_1448 : Cond.code yX12_readSeller prog_14_method_26_code 4 (Option.none : Option FieldType) ∈ jw_tbl := jw_inT (jc_7 (List.mem_of_getElem? (i := 8) rfl)) rfl
set_option maxRecDepth 100000 in
theorem jt_1449 : Cond.constantLong RX12 178 (33602674740454770 : Int64) ∈ jw_tbl := jw_inT (jc_7 (List.mem_of_getElem? (i := 9) rfl)) rfl
set_option maxRecDepth 100000 in
theorem jt_1450 : Cond.methodLink RX12 180 yX12_readWatcher ∈ jw_tbl := jw_inT (jc_7 (List.mem_of_getElem? (i := 10) rfl)) rfl
set_option maxRecDepth 100000 in
theorem jt_1452 : Cond.instanceMethod yX12_readWatcher ∈ jw_tbl := jw_inT (jc_7 (List.mem_of_getElem? (i := 12) rfl)) rfl
set_option maxRecDepth 100000 in
theorem jt_1453 : Cond.code yX12_readWatcher prog_14_method_27_code 3 (Option.none : Option FieldType) ∈ jw_tbl := jw_inT (jc_7 (List.mem_of_getElem? (i := 13) rfl)) rfl
set_option maxRecDepth 100000 in
theorem jt_1454 : Cond.constantLong RX12 183 (109287261888882 : Int64) ∈ jw_tbl := jw_inT (jc_7 (List.mem_of_getElem? (i := 14) rfl)) rfl
set_option maxRecDepth 100000 in
theorem jt_1455 : Cond.methodLink RX12 185 yX12_readCellar ∈ jw_tbl := jw_inT (jc_7 (List.mem_of_getElem? (i := 15) rfl)) rfl
set_option maxRecDepth 100000 in
theorem jt_1457 : Cond.instanceMethod yX12_readCellar ∈ jw_tbl := jw_inT (jc_7 (List.mem_of_getElem? (i := 17) rfl)) rfl
set_option maxRecDepth 100000 in
theorem jt_1458 : Cond.code yX12_readCellar prog_14_method_28_code 4 (Option.none : Option FieldType) ∈ jw_tbl := jw_inT (jc_7 (List.mem_of_getElem? (i := 18) rfl)) rfl
set_option maxRecDepth 100000 in
theorem jt_1459 : Cond.constantLong RX12 188 (7102839 : Int64) ∈ jw_tbl := jw_inT (jc_7 (List.mem_of_getElem? (i := 19) rfl)) rfl
set_option maxRecDepth 100000 in
theorem jt_1460 : Cond.methodLink RX12 190 yX12_readLaw ∈ jw_tbl := jw_inT (jc_7 (List.mem_of_getElem? (i := 20) rfl)) rfl
set_option maxRecDepth 100000 in
theorem jt_1462 : Cond.instanceMethod yX12_readLaw ∈ jw_tbl := jw_inT (jc_7 (List.mem_of_getElem? (i := 22) rfl)) rfl
set_option maxRecDepth 100000 in
theorem jt_1463 : Cond.code yX12_readLaw prog_14_method_29_code 4 (Option.none : Option FieldType) ∈ jw_tbl := jw_inT (jc_7 (List.mem_of_getElem? (i := 23) rfl)) rfl
set_option maxRecDepth 100000 in
theorem jt_1464 : Cond.constantLong RX12 214 (-9000000000000000100 : Int64) ∈ jw_tbl := jw_inT (jc_7 (List.mem_of_getElem? (i := 24) rfl)) rfl
set_option maxRecDepth 100000 in
theorem jt_1465 : Cond.methodLink RX12 220 yX12_layWays ∈ jw_tbl := jw_inT (jc_7 (List.mem_of_getElem? (i := 25) rfl)) rfl
set_option maxRecDepth 100000 in
theorem jt_1467 : Cond.instanceMethod yX12_layWays ∈ jw_tbl := jw_inT (jc_7 (List.mem_of_getElem? (i := 27) rfl)) rfl
set_option maxRecDepth 100000 in
theorem jt_1468 : Cond.code yX12_layWays prog_14_method_33_code 5 (Option.none : Option FieldType) ∈ jw_tbl := jw_inT (jc_7 (List.mem_of_getElem? (i := 28) rfl)) rfl
set_option maxRecDepth 100000 in
theorem jt_1469 : Cond.constant RX12 223 (1000000 : Int32) ∈ jw_tbl := jw_inT (jc_7 (List.mem_of_getElem? (i := 29) rfl)) rfl
set_option maxRecDepth 100000 in
theorem jt_1470 : Cond.methodLink RL 48 yX12_fault ∈ jw_tbl := jw_inT (jc_7 (List.mem_of_getElem? (i := 30) rfl)) rfl
set_option maxRecDepth 100000 in
theorem jt_1471 : Cond.instanceMethod yX12_fault ∈ jw_tbl := jw_inT (jc_7 (List.mem_of_getElem? (i := 31) rfl)) rfl
set_option maxRecDepth 100000 in
theorem jt_1472 : Cond.selects yX12_fault.cls yX12_fault yX12_fault ∈ jw_tbl := jw_inT (jc_7 (List.mem_of_getElem? (i := 32) rfl)) rfl
set_option maxRecDepth 100000 in
theorem jt_1473 : Cond.code yX12_fault prog_14_method_32_code 1 (Option.some FieldType.int) ∈ jw_tbl := jw_inT (jc_7 (List.mem_of_getElem? (i := 33) rfl)) rfl
set_option maxRecDepth 100000 in
theorem jt_1474 : Cond.methodLink RL 52 yX12_walk ∈ jw_tbl := jw_inT (jc_7 (List.mem_of_getElem? (i := 34) rfl)) rfl
set_option maxRecDepth 100000 in
theorem jt_1475 : Cond.instanceMethod yX12_walk ∈ jw_tbl := jw_inT (jc_7 (List.mem_of_getElem? (i := 35) rfl)) rfl
set_option maxRecDepth 100000 in
theorem jt_1476 : Cond.selects yX12_walk.cls yX12_walk yX12_walk ∈ jw_tbl := jw_inT (jc_7 (List.mem_of_getElem? (i := 36) rfl)) rfl
set_option maxRecDepth 100000 in
theorem jt_1477 : Cond.code yX12_walk prog_14_method_37_code 5 (Option.some FieldType.long) ∈ jw_tbl := jw_inT (jc_7 (List.mem_of_getElem? (i := 37) rfl)) rfl
set_option maxRecDepth 100000 in
theorem jt_1478 : Cond.methodLink RX12 224 yX12_isCorner ∈ jw_tbl := jw_inT (jc_7 (List.mem_of_getElem? (i := 38) rfl)) rfl
set_option maxRecDepth 100000 in
theorem jt_1480 : Cond.instanceMethod yX12_isCorner ∈ jw_tbl := jw_inT (jc_7 (List.mem_of_getElem? (i := 40) rfl)) rfl
set_option maxRecDepth 100000 in
theorem jt_1481 : Cond.code yX12_isCorner prog_14_method_34_code 2 (Option.some FieldType.boolean) ∈ jw_tbl := jw_inT (jc_7 (List.mem_of_getElem? (i := 41) rfl)) rfl
set_option maxRecDepth 100000 in
theorem jt_1482 : Cond.constantLong RX12 227 (-1000000 : Int64) ∈ jw_tbl := jw_inT (jc_7 (List.mem_of_getElem? (i := 42) rfl)) rfl
set_option maxRecDepth 100000 in
theorem jt_1483 : Cond.methodLink RL 57 yX12_goes ∈ jw_tbl := jw_inT (jc_7 (List.mem_of_getElem? (i := 43) rfl)) rfl
set_option maxRecDepth 100000 in
theorem jt_1484 : Cond.instanceMethod yX12_goes ∈ jw_tbl := jw_inT (jc_7 (List.mem_of_getElem? (i := 44) rfl)) rfl
set_option maxRecDepth 100000 in
theorem jt_1485 : Cond.selects yX12_goes.cls yX12_goes yX12_goes ∈ jw_tbl := jw_inT (jc_7 (List.mem_of_getElem? (i := 45) rfl)) rfl
set_option maxRecDepth 100000 in
theorem jt_1486 : Cond.code yX12_goes prog_14_method_38_code 4 (Option.some FieldType.long) ∈ jw_tbl := jw_inT (jc_7 (List.mem_of_getElem? (i := 46) rfl)) rfl
set_option maxRecDepth 100000 in
theorem jt_1487 : Cond.methodLink RX12 229 yX12_isSeller ∈ jw_tbl := jw_inT (jc_7 (List.mem_of_getElem? (i := 47) rfl)) rfl
set_option maxRecDepth 100000 in
theorem jt_1489 : Cond.instanceMethod yX12_isSeller ∈ jw_tbl := jw_inT (jc_7 (List.mem_of_getElem? (i := 49) rfl)) rfl
set_option maxRecDepth 100000 in
theorem jt_1490 : Cond.code yX12_isSeller prog_14_method_35_code 2 (Option.some FieldType.boolean) ∈ jw_tbl := jw_inT (jc_7 (List.mem_of_getElem? (i := 50) rfl)) rfl
set_option maxRecDepth 100000 in
theorem jt_1491 : Cond.methodLink RL 61 yX12_seller ∈ jw_tbl := jw_inT (jc_7 (List.mem_of_getElem? (i := 51) rfl)) rfl
set_option maxRecDepth 100000 in
theorem jt_1492 : Cond.instanceMethod yX12_seller ∈ jw_tbl := jw_inT (jc_7 (List.mem_of_getElem? (i := 52) rfl)) rfl
set_option maxRecDepth 100000 in
theorem jt_1493 : Cond.selects yX12_seller.cls yX12_seller yX12_seller ∈ jw_tbl := jw_inT (jc_7 (List.mem_of_getElem? (i := 53) rfl)) rfl
set_option maxRecDepth 100000 in
theorem jt_1494 : Cond.code yX12_seller prog_14_method_40_code 3 (Option.some FieldType.long) ∈ jw_tbl := jw_inT (jc_7 (List.mem_of_getElem? (i := 54) rfl)) rfl
set_option maxRecDepth 100000 in
theorem jt_1495 : Cond.constantLong RX12 232 (4 : Int64) ∈ jw_tbl := jw_inT (jc_7 (List.mem_of_getElem? (i := 55) rfl)) rfl
set_option maxRecDepth 100000 in
theorem jt_1496 : Cond.methodLink RX12 234 yX12_goodsOf ∈ jw_tbl := jw_inT (jc_7 (List.mem_of_getElem? (i := 56) rfl)) rfl
set_option maxRecDepth 100000 in
theorem jt_1498 : Cond.instanceMethod yX12_goodsOf ∈ jw_tbl := jw_inT (jc_7 (List.mem_of_getElem? (i := 58) rfl)) rfl
set_option maxRecDepth 100000 in
theorem jt_1499 : Cond.code yX12_goodsOf prog_14_method_39_code 3 (Option.some FieldType.int) ∈ jw_tbl := jw_inT (jc_7 (List.mem_of_getElem? (i := 59) rfl)) rfl
set_option maxRecDepth 100000 in
theorem jt_1500 : Cond.methodLink RL 65 yX12_watch ∈ jw_tbl := jw_inT (jc_7 (List.mem_of_getElem? (i := 60) rfl)) rfl
set_option maxRecDepth 100000 in
theorem jt_1501 : Cond.instanceMethod yX12_watch ∈ jw_tbl := jw_inT (jc_7 (List.mem_of_getElem? (i := 61) rfl)) rfl
set_option maxRecDepth 100000 in
theorem jt_1502 : Cond.selects yX12_watch.cls yX12_watch yX12_watch ∈ jw_tbl := jw_inT (jc_7 (List.mem_of_getElem? (i := 62) rfl)) rfl
set_option maxRecDepth 100000 in
theorem jt_1503 : Cond.code yX12_watch prog_14_method_41_code 4 (Option.some FieldType.long) ∈ jw_tbl := jw_inT (jc_7 (List.mem_of_getElem? (i := 63) rfl)) rfl
set_option maxRecDepth 100000 in
theorem jt_1504 : Cond.methodLink RX12 237 yX12_isWatcher ∈ jw_tbl := jw_inT (jc_7 (List.mem_of_getElem? (i := 64) rfl)) rfl
set_option maxRecDepth 100000 in
theorem jt_1506 : Cond.instanceMethod yX12_isWatcher ∈ jw_tbl := jw_inT (jc_7 (List.mem_of_getElem? (i := 66) rfl)) rfl
set_option maxRecDepth 100000 in
theorem jt_1507 : Cond.code yX12_isWatcher prog_14_method_36_code 2 (Option.some FieldType.boolean) ∈ jw_tbl := jw_inT (jc_7 (List.mem_of_getElem? (i := 67) rfl)) rfl
set_option maxRecDepth 100000 in
theorem jt_1508 : Cond.methodLink RL 69 yX12_raid ∈ jw_tbl := jw_inT (jc_7 (List.mem_of_getElem? (i := 68) rfl)) rfl
set_option maxRecDepth 100000 in
theorem jt_1509 : Cond.instanceMethod yX12_raid ∈ jw_tbl := jw_inT (jc_7 (List.mem_of_getElem? (i := 69) rfl)) rfl
set_option maxRecDepth 100000 in
theorem jt_1510 : Cond.selects yX12_raid.cls yX12_raid yX12_raid ∈ jw_tbl := jw_inT (jc_7 (List.mem_of_getElem? (i := 70) rfl)) rfl
set_option maxRecDepth 100000 in
theorem jt_1511 : Cond.code yX12_raid prog_14_method_49_code 4 (Option.some FieldType.long) ∈ jw_tbl := jw_inT (jc_7 (List.mem_of_getElem? (i := 71) rfl)) rfl
set_option maxRecDepth 100000 in
theorem jt_1512 : Cond.constantLong RX12 250 (10 : Int64) ∈ jw_tbl := jw_inT (jc_7 (List.mem_of_getElem? (i := 72) rfl)) rfl
set_option maxRecDepth 100000 in
theorem jt_1513 : Cond.constantLong RX12 252 (-9000000000000000002 : Int64) ∈ jw_tbl := jw_inT (jc_7 (List.mem_of_getElem? (i := 73) rfl)) rfl
set_option maxRecDepth 100000 in
theorem jt_1514 : Cond.methodLink RX12 254 yX12_clearComes ∈ jw_tbl := jw_inT (jc_7 (List.mem_of_getElem? (i := 74) rfl)) rfl
set_option maxRecDepth 100000 in
theorem jt_1516 : Cond.instanceMethod yX12_clearComes ∈ jw_tbl := jw_inT (jc_7 (List.mem_of_getElem? (i := 76) rfl)) rfl
set_option maxRecDepth 100000 in
theorem jt_1517 : Cond.code yX12_clearComes prog_14_method_42_code 2 (Option.none : Option FieldType) ∈ jw_tbl := jw_inT (jc_7 (List.mem_of_getElem? (i := 77) rfl)) rfl
set_option maxRecDepth 100000 in
theorem jt_1518 : Cond.methodLink RX12 257 yX12_goRoute ∈ jw_tbl := jw_inT (jc_7 (List.mem_of_getElem? (i := 78) rfl)) rfl
set_option maxRecDepth 100000 in
theorem jt_1520 : Cond.instanceMethod yX12_goRoute ∈ jw_tbl := jw_inT (jc_7 (List.mem_of_getElem? (i := 80) rfl)) rfl
set_option maxRecDepth 100000 in
theorem jt_1521 : Cond.code yX12_goRoute prog_14_method_43_code 7 (Option.some FieldType.boolean) ∈ jw_tbl := jw_inT (jc_7 (List.mem_of_getElem? (i := 81) rfl)) rfl
set_option maxRecDepth 100000 in
theorem jt_1522 : Cond.methodLink RX12 260 yX12_layRaid ∈ jw_tbl := jw_inT (jc_7 (List.mem_of_getElem? (i := 82) rfl)) rfl
set_option maxRecDepth 100000 in
theorem jt_1524 : Cond.instanceMethod yX12_layRaid ∈ jw_tbl := jw_inT (jc_7 (List.mem_of_getElem? (i := 84) rfl)) rfl
set_option maxRecDepth 100000 in
theorem jt_1525 : Cond.code yX12_layRaid prog_14_method_48_code 7 (Option.some FieldType.int) ∈ jw_tbl := jw_inT (jc_7 (List.mem_of_getElem? (i := 85) rfl)) rfl
set_option maxRecDepth 100000 in
theorem jt_1526 : Cond.methodLink RX12 244 yX12_warnedOf ∈ jw_tbl := jw_inT (jc_7 (List.mem_of_getElem? (i := 86) rfl)) rfl
set_option maxRecDepth 100000 in
theorem jt_1528 : Cond.instanceMethod yX12_warnedOf ∈ jw_tbl := jw_inT (jc_7 (List.mem_of_getElem? (i := 88) rfl)) rfl
set_option maxRecDepth 100000 in
theorem jt_1529 : Cond.code yX12_warnedOf prog_14_method_44_code 7 (Option.some FieldType.int) ∈ jw_tbl := jw_inT (jc_7 (List.mem_of_getElem? (i := 89) rfl)) rfl
set_option maxRecDepth 100000 in
theorem jt_1530 : Cond.methodLink RX12 240 yX12_isCaught ∈ jw_tbl := jw_inT (jc_7 (List.mem_of_getElem? (i := 90) rfl)) rfl
set_option maxRecDepth 100000 in
theorem jt_1532 : Cond.instanceMethod yX12_isCaught ∈ jw_tbl := jw_inT (jc_7 (List.mem_of_getElem? (i := 92) rfl)) rfl
set_option maxRecDepth 100000 in
theorem jt_1533 : Cond.code yX12_isCaught prog_14_method_45_code 4 (Option.some FieldType.boolean) ∈ jw_tbl := jw_inT (jc_7 (List.mem_of_getElem? (i := 93) rfl)) rfl
set_option maxRecDepth 100000 in
theorem jt_1534 : Cond.methodLink RX12 247 yX12_lostBy ∈ jw_tbl := jw_inT (jc_7 (List.mem_of_getElem? (i := 94) rfl)) rfl
set_option maxRecDepth 100000 in
theorem jt_1536 : Cond.instanceMethod yX12_lostBy ∈ jw_tbl := jw_inT (jc_7 (List.mem_of_getElem? (i := 96) rfl)) rfl
set_option maxRecDepth 100000 in
theorem jt_1537 : Cond.code yX12_lostBy prog_14_method_46_code 3 (Option.some FieldType.int) ∈ jw_tbl := jw_inT (jc_7 (List.mem_of_getElem? (i := 97) rfl)) rfl
set_option maxRecDepth 100000 in
theorem jt_1538 : Cond.methodLink RL 74 yX12_two ∈ jw_tbl := jw_inT (jc_7 (List.mem_of_getElem? (i := 98) rfl)) rfl
set_option maxRecDepth 100000 in
theorem jt_1539 : Cond.instanceMethod yX12_two ∈ jw_tbl := jw_inT (jc_7 (List.mem_of_getElem? (i := 99) rfl)) rfl
set_option maxRecDepth 100000 in
theorem jt_1540 : Cond.selects yX12_two.cls yX12_two yX12_two ∈ jw_tbl := jw_inT (jc_7 (List.mem_of_getElem? (i := 100) rfl)) rfl
set_option maxRecDepth 100000 in
theorem jt_1541 : Cond.code yX12_two prog_14_method_50_code 5 (Option.some FieldType.long) ∈ jw_tbl := jw_inT (jc_7 (List.mem_of_getElem? (i := 101) rfl)) rfl
set_option maxRecDepth 100000 in
theorem jt_1542 : Cond.methodLink RL 78 yX12_after ∈ jw_tbl := jw_inT (jc_7 (List.mem_of_getElem? (i := 102) rfl)) rfl
set_option maxRecDepth 100000 in
theorem jt_1543 : Cond.instanceMethod yX12_after ∈ jw_tbl := jw_inT (jc_7 (List.mem_of_getElem? (i := 103) rfl)) rfl
set_option maxRecDepth 100000 in
theorem jt_1544 : Cond.selects yX12_after.cls yX12_after yX12_after ∈ jw_tbl := jw_inT (jc_7 (List.mem_of_getElem? (i := 104) rfl)) rfl
set_option maxRecDepth 100000 in
theorem jt_1545 : Cond.code yX12_after prog_14_method_53_code 6 (Option.some FieldType.long) ∈ jw_tbl := jw_inT (jc_7 (List.mem_of_getElem? (i := 105) rfl)) rfl
set_option maxRecDepth 100000 in
theorem jt_1546 : Cond.constantLong RX12 266 (3 : Int64) ∈ jw_tbl := jw_inT (jc_7 (List.mem_of_getElem? (i := 106) rfl)) rfl
set_option maxRecDepth 100000 in
theorem jt_1547 : Cond.methodLink RX12 263 yX12_becameOf ∈ jw_tbl := jw_inT (jc_7 (List.mem_of_getElem? (i := 107) rfl)) rfl
set_option maxRecDepth 100000 in
theorem jt_1549 : Cond.instanceMethod yX12_becameOf ∈ jw_tbl := jw_inT (jc_7 (List.mem_of_getElem? (i := 109) rfl)) rfl
set_option maxRecDepth 100000 in
theorem jt_1550 : Cond.code yX12_becameOf prog_14_method_47_code 2 (Option.some FieldType.int) ∈ jw_tbl := jw_inT (jc_7 (List.mem_of_getElem? (i := 110) rfl)) rfl
set_option maxRecDepth 100000 in
theorem jt_1551 : Cond.methodLink RX12 268 yX12_lostOf ∈ jw_tbl := jw_inT (jc_7 (List.mem_of_getElem? (i := 111) rfl)) rfl
set_option maxRecDepth 100000 in
theorem jt_1553 : Cond.instanceMethod yX12_lostOf ∈ jw_tbl := jw_inT (jc_7 (List.mem_of_getElem? (i := 113) rfl)) rfl
set_option maxRecDepth 100000 in
theorem jt_1554 : Cond.code yX12_lostOf prog_14_method_52_code 2 (Option.some FieldType.int) ∈ jw_tbl := jw_inT (jc_7 (List.mem_of_getElem? (i := 114) rfl)) rfl
set_option maxRecDepth 100000 in
theorem jt_1555 : Cond.methodLink RX12 271 yX12_goneOf ∈ jw_tbl := jw_inT (jc_7 (List.mem_of_getElem? (i := 115) rfl)) rfl
set_option maxRecDepth 100000 in
theorem jt_1557 : Cond.instanceMethod yX12_goneOf ∈ jw_tbl := jw_inT (jc_7 (List.mem_of_getElem? (i := 117) rfl)) rfl
set_option maxRecDepth 100000 in
theorem jt_1558 : Cond.code yX12_goneOf prog_14_method_51_code 2 (Option.some FieldType.int) ∈ jw_tbl := jw_inT (jc_7 (List.mem_of_getElem? (i := 118) rfl)) rfl
set_option maxRecDepth 100000 in
theorem jt_1559 : Cond.methodLink RL 82 yX12_nothing ∈ jw_tbl := jw_inT (jc_7 (List.mem_of_getElem? (i := 119) rfl)) rfl
set_option maxRecDepth 100000 in
theorem jt_1560 : Cond.instanceMethod yX12_nothing ∈ jw_tbl := jw_inT (jc_7 (List.mem_of_getElem? (i := 120) rfl)) rfl
set_option maxRecDepth 100000 in
theorem jt_1561 : Cond.selects yX12_nothing.cls yX12_nothing yX12_nothing ∈ jw_tbl := jw_inT (jc_7 (List.mem_of_getElem? (i := 121) rfl)) rfl
set_option maxRecDepth 100000 in
theorem jt_1562 : Cond.code yX12_nothing prog_14_method_54_code 4 (Option.some FieldType.long) ∈ jw_tbl := jw_inT (jc_7 (List.mem_of_getElem? (i := 122) rfl)) rfl
set_option maxRecDepth 100000 in
theorem jt_1563 : Cond.methodLink RL 86 yX12_keep ∈ jw_tbl := jw_inT (jc_7 (List.mem_of_getElem? (i := 123) rfl)) rfl
set_option maxRecDepth 100000 in
theorem jt_1564 : Cond.instanceMethod yX12_keep ∈ jw_tbl := jw_inT (jc_7 (List.mem_of_getElem? (i := 124) rfl)) rfl
set_option maxRecDepth 100000 in
theorem jt_1565 : Cond.selects yX12_keep.cls yX12_keep yX12_keep ∈ jw_tbl := jw_inT (jc_7 (List.mem_of_getElem? (i := 125) rfl)) rfl
set_option maxRecDepth 100000 in
theorem jt_1566 : Cond.code yX12_keep prog_14_method_55_code 2 (Option.some FieldType.long) ∈ jw_tbl := jw_inT (jc_7 (List.mem_of_getElem? (i := 126) rfl)) rfl
set_option maxRecDepth 100000 in
theorem jt_1567 : Cond.methodLink RL 90 yX12_feared ∈ jw_tbl := jw_inT (jc_7 (List.mem_of_getElem? (i := 127) rfl)) rfl
set_option maxRecDepth 100000 in
theorem jt_1568 : Cond.instanceMethod yX12_feared ∈ jw_tbl := jw_inT (jc_7 (List.mem_of_getElem? (i := 128) rfl)) rfl
set_option maxRecDepth 100000 in
theorem jt_1569 : Cond.selects yX12_feared.cls yX12_feared yX12_feared ∈ jw_tbl := jw_inT (jc_7 (List.mem_of_getElem? (i := 129) rfl)) rfl
set_option maxRecDepth 100000 in
theorem jt_1570 : Cond.code yX12_feared prog_14_method_58_code 3 (Option.some FieldType.long) ∈ jw_tbl := jw_inT (jc_7 (List.mem_of_getElem? (i := 130) rfl)) rfl
set_option maxRecDepth 100000 in
theorem jt_1571 : Cond.methodLink RX12 274 yX12_timesAt ∈ jw_tbl := jw_inT (jc_7 (List.mem_of_getElem? (i := 131) rfl)) rfl
set_option maxRecDepth 100000 in
theorem jt_1573 : Cond.instanceMethod yX12_timesAt ∈ jw_tbl := jw_inT (jc_7 (List.mem_of_getElem? (i := 133) rfl)) rfl
set_option maxRecDepth 100000 in
theorem jt_1574 : Cond.code yX12_timesAt prog_14_method_56_code 4 (Option.some FieldType.int) ∈ jw_tbl := jw_inT (jc_7 (List.mem_of_getElem? (i := 134) rfl)) rfl
set_option maxRecDepth 100000 in
theorem jt_1575 : Cond.methodLink RX12 277 yX12_partOf ∈ jw_tbl := jw_inT (jc_7 (List.mem_of_getElem? (i := 135) rfl)) rfl
set_option maxRecDepth 100000 in
theorem jt_1576 : Cond.static yX12_partOf ∈ jw_tbl := jw_inT (jc_7 (List.mem_of_getElem? (i := 136) rfl)) rfl
set_option maxRecDepth 100000 in
theorem jt_1577 : Cond.code yX12_partOf prog_14_method_57_code 11 (Option.some FieldType.long) ∈ jw_tbl := jw_inT (jc_7 (List.mem_of_getElem? (i := 137) rfl)) rfl
set_option maxRecDepth 100000 in
theorem jt_1578 : Cond.methodLink RL 94 yX12_score ∈ jw_tbl := jw_inT (jc_7 (List.mem_of_getElem? (i := 138) rfl)) rfl
set_option maxRecDepth 100000 in
theorem jt_1579 : Cond.instanceMethod yX12_score ∈ jw_tbl := jw_inT (jc_7 (List.mem_of_getElem? (i := 139) rfl)) rfl
set_option maxRecDepth 100000 in
theorem jt_1580 : Cond.selects yX12_score.cls yX12_score yX12_score ∈ jw_tbl := jw_inT (jc_7 (List.mem_of_getElem? (i := 140) rfl)) rfl
set_option maxRecDepth 100000 in
theorem jt_1581 : Cond.code yX12_score prog_14_method_62_code 3 (Option.some FieldType.long) ∈ jw_tbl := jw_inT (jc_7 (List.mem_of_getElem? (i := 141) rfl)) rfl
set_option maxRecDepth 100000 in
theorem jt_1582 : Cond.methodLink RX12 285 yX12_scoreOf ∈ jw_tbl := jw_inT (jc_7 (List.mem_of_getElem? (i := 142) rfl)) rfl
set_option maxRecDepth 100000 in
theorem jt_1584 : Cond.instanceMethod yX12_scoreOf ∈ jw_tbl := jw_inT (jc_7 (List.mem_of_getElem? (i := 144) rfl)) rfl
set_option maxRecDepth 100000 in
theorem jt_1585 : Cond.code yX12_scoreOf prog_14_method_59_code 5 (Option.some FieldType.int) ∈ jw_tbl := jw_inT (jc_7 (List.mem_of_getElem? (i := 145) rfl)) rfl
set_option maxRecDepth 100000 in
theorem jt_1586 : Cond.methodLink RL 98 yX12_may ∈ jw_tbl := jw_inT (jc_7 (List.mem_of_getElem? (i := 146) rfl)) rfl
set_option maxRecDepth 100000 in
theorem jt_1587 : Cond.instanceMethod yX12_may ∈ jw_tbl := jw_inT (jc_7 (List.mem_of_getElem? (i := 147) rfl)) rfl
set_option maxRecDepth 100000 in
theorem jt_1588 : Cond.selects yX12_may.cls yX12_may yX12_may ∈ jw_tbl := jw_inT (jc_7 (List.mem_of_getElem? (i := 148) rfl)) rfl
set_option maxRecDepth 100000 in
theorem jt_1589 : Cond.code yX12_may prog_14_method_63_code 2 (Option.some FieldType.long) ∈ jw_tbl := jw_inT (jc_7 (List.mem_of_getElem? (i := 149) rfl)) rfl
set_option maxRecDepth 100000 in
theorem jt_1590 : Cond.methodLink RX12 288 yX12_mayOf ∈ jw_tbl := jw_inT (jc_7 (List.mem_of_getElem? (i := 150) rfl)) rfl
set_option maxRecDepth 100000 in
theorem jt_1592 : Cond.instanceMethod yX12_mayOf ∈ jw_tbl := jw_inT (jc_7 (List.mem_of_getElem? (i := 152) rfl)) rfl
set_option maxRecDepth 100000 in
theorem jt_1593 : Cond.code yX12_mayOf prog_14_method_61_code 5 (Option.some FieldType.int) ∈ jw_tbl := jw_inT (jc_7 (List.mem_of_getElem? (i := 153) rfl)) rfl
set_option maxRecDepth 100000 in
theorem jt_1594 : Cond.methodLink RX12 281 yX12_mayStand ∈ jw_tbl := jw_inT (jc_7 (List.mem_of_getElem? (i := 154) rfl)) rfl
set_option maxRecDepth 100000 in
theorem jt_1596 : Cond.instanceMethod yX12_mayStand ∈ jw_tbl := jw_inT (jc_7 (List.mem_of_getElem? (i := 156) rfl)) rfl
set_option maxRecDepth 100000 in
theorem jt_1597 : Cond.code yX12_mayStand prog_14_method_60_code 6 (Option.some FieldType.boolean) ∈ jw_tbl := jw_inT (jc_7 (List.mem_of_getElem? (i := 157) rfl)) rfl
set_option maxRecDepth 100000 in
theorem jt_1598 : Cond.methodLink RL 102 yX12_newcomer ∈ jw_tbl := jw_inT (jc_7 (List.mem_of_getElem? (i := 158) rfl)) rfl
set_option maxRecDepth 100000 in
theorem jt_1599 : Cond.instanceMethod yX12_newcomer ∈ jw_tbl := jw_inT (jc_7 (List.mem_of_getElem? (i := 159) rfl)) rfl
set_option maxRecDepth 100000 in
theorem jt_1600 : Cond.selects yX12_newcomer.cls yX12_newcomer yX12_newcomer ∈ jw_tbl := jw_inT (jc_7 (List.mem_of_getElem? (i := 160) rfl)) rfl
set_option maxRecDepth 100000 in
theorem jt_1601 : Cond.code yX12_newcomer prog_14_method_64_code 2 (Option.some FieldType.long) ∈ jw_tbl := jw_inT (jc_7 (List.mem_of_getElem? (i := 161) rfl)) rfl
set_option maxRecDepth 100000 in
theorem jt_1602 : Cond.methodLink RL 106 yX12_rest ∈ jw_tbl := jw_inT (jc_7 (List.mem_of_getElem? (i := 162) rfl)) rfl
set_option maxRecDepth 100000 in
theorem jt_1603 : Cond.instanceMethod yX12_rest ∈ jw_tbl := jw_inT (jc_7 (List.mem_of_getElem? (i := 163) rfl)) rfl
set_option maxRecDepth 100000 in
theorem jt_1604 : Cond.selects yX12_rest.cls yX12_rest yX12_rest ∈ jw_tbl := jw_inT (jc_7 (List.mem_of_getElem? (i := 164) rfl)) rfl
set_option maxRecDepth 100000 in
theorem jt_1605 : Cond.code yX12_rest prog_14_method_67_code 1 (Option.some FieldType.long) ∈ jw_tbl := jw_inT (jc_7 (List.mem_of_getElem? (i := 165) rfl)) rfl
set_option maxRecDepth 100000 in
theorem jt_1606 : Cond.methodLink RX12 294 yX12_areAtRest ∈ jw_tbl := jw_inT (jc_7 (List.mem_of_getElem? (i := 166) rfl)) rfl
set_option maxRecDepth 100000 in
theorem jt_1608 : Cond.instanceMethod yX12_areAtRest ∈ jw_tbl := jw_inT (jc_7 (List.mem_of_getElem? (i := 168) rfl)) rfl
set_option maxRecDepth 100000 in
theorem jt_1609 : Cond.code yX12_areAtRest prog_14_method_66_code 3 (Option.some FieldType.boolean) ∈ jw_tbl := jw_inT (jc_7 (List.mem_of_getElem? (i := 169) rfl)) rfl
set_option maxRecDepth 100000 in
theorem jt_1610 : Cond.methodLink RX12 291 yX12_bestOf ∈ jw_tbl := jw_inT (jc_7 (List.mem_of_getElem? (i := 170) rfl)) rfl
set_option maxRecDepth 100000 in
theorem jt_1612 : Cond.instanceMethod yX12_bestOf ∈ jw_tbl := jw_inT (jc_7 (List.mem_of_getElem? (i := 172) rfl)) rfl
set_option maxRecDepth 100000 in
theorem jt_1613 : Cond.code yX12_bestOf prog_14_method_65_code 7 (Option.some FieldType.int) ∈ jw_tbl := jw_inT (jc_7 (List.mem_of_getElem? (i := 173) rfl)) rfl
set_option maxRecDepth 100000 in
theorem jt_1614 : Cond.methodLink RL 110 yX12_settle ∈ jw_tbl := jw_inT (jc_7 (List.mem_of_getElem? (i := 174) rfl)) rfl
set_option maxRecDepth 100000 in
theorem jt_1615 : Cond.instanceMethod yX12_settle ∈ jw_tbl := jw_inT (jc_7 (List.mem_of_getElem? (i := 175) rfl)) rfl
set_option maxRecDepth 100000 in
theorem jt_1616 : Cond.selects yX12_settle.cls yX12_settle yX12_settle ∈ jw_tbl := jw_inT (jc_7 (List.mem_of_getElem? (i := 176) rfl)) rfl
set_option maxRecDepth 100000 in
theorem jt_1617 : Cond.code yX12_settle prog_14_method_68_code 5 (Option.some FieldType.long) ∈ jw_tbl := jw_inT (jc_7 (List.mem_of_getElem? (i := 177) rfl)) rfl
set_option maxRecDepth 100000 in
theorem jt_1618 : Cond.methodLink RL 114 yX12_rests ∈ jw_tbl := jw_inT (jc_7 (List.mem_of_getElem? (i := 178) rfl)) rfl
set_option maxRecDepth 100000 in
theorem jt_1619 : Cond.instanceMethod yX12_rests ∈ jw_tbl := jw_inT (jc_7 (List.mem_of_getElem? (i := 179) rfl)) rfl
set_option maxRecDepth 100000 in
theorem jt_1620 : Cond.selects yX12_rests.cls yX12_rests yX12_rests ∈ jw_tbl := jw_inT (jc_7 (List.mem_of_getElem? (i := 180) rfl)) rfl
set_option maxRecDepth 100000 in
theorem jt_1621 : Cond.code yX12_rests prog_14_method_69_code 9 (Option.some FieldType.long) ∈ jw_tbl := jw_inT (jc_7 (List.mem_of_getElem? (i := 181) rfl)) rfl
set_option maxRecDepth 100000 in
theorem jt_1622 : Cond.methodLink RL 118 yX12_saved ∈ jw_tbl := jw_inT (jc_7 (List.mem_of_getElem? (i := 182) rfl)) rfl
set_option maxRecDepth 100000 in
theorem jt_1623 : Cond.instanceMethod yX12_saved ∈ jw_tbl := jw_inT (jc_7 (List.mem_of_getElem? (i := 183) rfl)) rfl
set_option maxRecDepth 100000 in
theorem jt_1624 : Cond.selects yX12_saved.cls yX12_saved yX12_saved ∈ jw_tbl := jw_inT (jc_7 (List.mem_of_getElem? (i := 184) rfl)) rfl
set_option maxRecDepth 100000 in
theorem jt_1625 : Cond.code yX12_saved prog_14_method_71_code 3 (Option.some FieldType.long) ∈ jw_tbl := jw_inT (jc_7 (List.mem_of_getElem? (i := 185) rfl)) rfl
set_option maxRecDepth 100000 in
theorem jt_1626 : Cond.methodLink RX12 298 yX12_savedBy ∈ jw_tbl := jw_inT (jc_7 (List.mem_of_getElem? (i := 186) rfl)) rfl
set_option maxRecDepth 100000 in
theorem jt_1628 : Cond.instanceMethod yX12_savedBy ∈ jw_tbl := jw_inT (jc_7 (List.mem_of_getElem? (i := 188) rfl)) rfl
set_option maxRecDepth 100000 in
theorem jt_1629 : Cond.code yX12_savedBy prog_14_method_70_code 3 (Option.some FieldType.int) ∈ jw_tbl := jw_inT (jc_7 (List.mem_of_getElem? (i := 189) rfl)) rfl
set_option maxRecDepth 100000 in
theorem jt_1630 : Cond.methodLink RL 122 yX12_pays ∈ jw_tbl := jw_inT (jc_7 (List.mem_of_getElem? (i := 190) rfl)) rfl
set_option maxRecDepth 100000 in
theorem jt_1631 : Cond.instanceMethod yX12_pays ∈ jw_tbl := jw_inT (jc_7 (List.mem_of_getElem? (i := 191) rfl)) rfl
set_option maxRecDepth 100000 in
theorem jt_1632 : Cond.selects yX12_pays.cls yX12_pays yX12_pays ∈ jw_tbl := jw_inT (jc_7 (List.mem_of_getElem? (i := 192) rfl)) rfl
set_option maxRecDepth 100000 in
theorem jt_1633 : Cond.code yX12_pays prog_14_method_75_code 10 (Option.some FieldType.long) ∈ jw_tbl := jw_inT (jc_7 (List.mem_of_getElem? (i := 193) rfl)) rfl
set_option maxRecDepth 100000 in
theorem jt_1634 : Cond.constantLong RX12 301 (9999 : Int64) ∈ jw_tbl := jw_inT (jc_7 (List.mem_of_getElem? (i := 194) rfl)) rfl
set_option maxRecDepth 100000 in
theorem jt_1635 : Cond.methodLink RX12 303 yX12_bits ∈ jw_tbl := jw_inT (jc_7 (List.mem_of_getElem? (i := 195) rfl)) rfl
set_option maxRecDepth 100000 in
theorem jt_1636 : Cond.static yX12_bits ∈ jw_tbl := jw_inT (jc_7 (List.mem_of_getElem? (i := 196) rfl)) rfl
set_option maxRecDepth 100000 in
theorem jt_1637 : Cond.code yX12_bits prog_14_method_73_code 3 (Option.some FieldType.int) ∈ jw_tbl := jw_inT (jc_7 (List.mem_of_getElem? (i := 197) rfl)) rfl
set_option maxRecDepth 100000 in
theorem jt_1638 : Cond.methodLink RX12 306 yX12_factorial ∈ jw_tbl := jw_inT (jc_7 (List.mem_of_getElem? (i := 198) rfl)) rfl
set_option maxRecDepth 100000 in
theorem jt_1639 : Cond.static yX12_factorial ∈ jw_tbl := jw_inT (jc_7 (List.mem_of_getElem? (i := 199) rfl)) rfl
set_option maxRecDepth 100000 in
theorem jt_1640 : Cond.code yX12_factorial prog_14_method_74_code 4 (Option.some FieldType.long) ∈ jw_tbl := jw_inT (jc_7 (List.mem_of_getElem? (i := 200) rfl)) rfl
set_option maxRecDepth 100000 in
theorem jt_1641 : Cond.methodLink RX12 309 yX12_gainOf ∈ jw_tbl := jw_inT (jc_7 (List.mem_of_getElem? (i := 201) rfl)) rfl
set_option maxRecDepth 100000 in
theorem jt_1643 : Cond.instanceMethod yX12_gainOf ∈ jw_tbl := jw_inT (jc_7 (List.mem_of_getElem? (i := 203) rfl)) rfl
set_option maxRecDepth 100000 in
theorem jt_1644 : Cond.code yX12_gainOf prog_14_method_72_code 7 (Option.some FieldType.long) ∈ jw_tbl := jw_inT (jc_7 (List.mem_of_getElem? (i := 204) rfl)) rfl
set_option maxRecDepth 100000 in
theorem jt_1645 : Cond.methodLink RL 126 yX12_stored ∈ jw_tbl := jw_inT (jc_7 (List.mem_of_getElem? (i := 205) rfl)) rfl
set_option maxRecDepth 100000 in
theorem jt_1646 : Cond.instanceMethod yX12_stored ∈ jw_tbl := jw_inT (jc_7 (List.mem_of_getElem? (i := 206) rfl)) rfl
set_option maxRecDepth 100000 in
theorem jt_1647 : Cond.selects yX12_stored.cls yX12_stored yX12_stored ∈ jw_tbl := jw_inT (jc_7 (List.mem_of_getElem? (i := 207) rfl)) rfl
set_option maxRecDepth 100000 in
theorem jt_1648 : Cond.code yX12_stored prog_14_method_77_code 12 (Option.some FieldType.long) ∈ jw_tbl := jw_inT (jc_7 (List.mem_of_getElem? (i := 208) rfl)) rfl
set_option maxRecDepth 100000 in
theorem jt_1649 : Cond.methodLink RX12 313 yX12_storeCost ∈ jw_tbl := jw_inT (jc_7 (List.mem_of_getElem? (i := 209) rfl)) rfl
set_option maxRecDepth 100000 in
theorem jt_1651 : Cond.instanceMethod yX12_storeCost ∈ jw_tbl := jw_inT (jc_7 (List.mem_of_getElem? (i := 211) rfl)) rfl
set_option maxRecDepth 100000 in
theorem jt_1652 : Cond.code yX12_storeCost prog_14_method_76_code 4 (Option.some FieldType.int) ∈ jw_tbl := jw_inT (jc_7 (List.mem_of_getElem? (i := 212) rfl)) rfl
set_option maxRecDepth 100000 in
theorem jt_1653 : Cond.methodLink RL 130 yX12_escapes ∈ jw_tbl := jw_inT (jc_7 (List.mem_of_getElem? (i := 213) rfl)) rfl
set_option maxRecDepth 100000 in
theorem jt_1654 : Cond.instanceMethod yX12_escapes ∈ jw_tbl := jw_inT (jc_7 (List.mem_of_getElem? (i := 214) rfl)) rfl
set_option maxRecDepth 100000 in
theorem jt_1655 : Cond.selects yX12_escapes.cls yX12_escapes yX12_escapes ∈ jw_tbl := jw_inT (jc_7 (List.mem_of_getElem? (i := 215) rfl)) rfl
set_option maxRecDepth 100000 in
theorem jt_1656 : Cond.code yX12_escapes prog_14_method_80_code 4 (Option.some FieldType.long) ∈ jw_tbl := jw_inT (jc_7 (List.mem_of_getElem? (i := 216) rfl)) rfl
set_option maxRecDepth 100000 in
theorem jt_1657 : Cond.methodLink RX12 316 yX12_layRoom ∈ jw_tbl := jw_inT (jc_7 (List.mem_of_getElem? (i := 217) rfl)) rfl
set_option maxRecDepth 100000 in
theorem jt_1659 : Cond.instanceMethod yX12_layRoom ∈ jw_tbl := jw_inT (jc_7 (List.mem_of_getElem? (i := 219) rfl)) rfl
set_option maxRecDepth 100000 in
theorem jt_1660 : Cond.code yX12_layRoom prog_14_method_78_code 5 (Option.none : Option FieldType) ∈ jw_tbl := jw_inT (jc_7 (List.mem_of_getElem? (i := 220) rfl)) rfl
set_option maxRecDepth 100000 in
theorem jt_1661 : Cond.methodLink RX12 319 yX12_goesMore ∈ jw_tbl := jw_inT (jc_7 (List.mem_of_getElem? (i := 221) rfl)) rfl
set_option maxRecDepth 100000 in
theorem jt_1663 : Cond.instanceMethod yX12_goesMore ∈ jw_tbl := jw_inT (jc_7 (List.mem_of_getElem? (i := 223) rfl)) rfl
set_option maxRecDepth 100000 in
theorem jt_1664 : Cond.code yX12_goesMore prog_14_method_79_code 6 (Option.some FieldType.boolean) ∈ jw_tbl := jw_inT (jc_7 (List.mem_of_getElem? (i := 224) rfl)) rfl
set_option maxRecDepth 100000 in
theorem jt_1665 : Cond.methodLink RL 134 yX12_value ∈ jw_tbl := jw_inT (jc_7 (List.mem_of_getElem? (i := 225) rfl)) rfl
set_option maxRecDepth 100000 in
theorem jt_1666 : Cond.instanceMethod yX12_value ∈ jw_tbl := jw_inT (jc_7 (List.mem_of_getElem? (i := 226) rfl)) rfl
set_option maxRecDepth 100000 in
theorem jt_1667 : Cond.selects yX12_value.cls yX12_value yX12_value ∈ jw_tbl := jw_inT (jc_7 (List.mem_of_getElem? (i := 227) rfl)) rfl
set_option maxRecDepth 100000 in
theorem jt_1668 : Cond.code yX12_value prog_14_method_84_code 3 (Option.some FieldType.long) ∈ jw_tbl := jw_inT (jc_7 (List.mem_of_getElem? (i := 228) rfl)) rfl
set_option maxRecDepth 100000 in
theorem jt_1669 : Cond.constantLong RX12 335 (99 : Int64) ∈ jw_tbl := jw_inT (jc_7 (List.mem_of_getElem? (i := 229) rfl)) rfl
set_option maxRecDepth 100000 in
theorem jt_1670 : Cond.methodLink RX12 337 yX12_seekValue ∈ jw_tbl := jw_inT (jc_7 (List.mem_of_getElem? (i := 230) rfl)) rfl
set_option maxRecDepth 100000 in
theorem jt_1672 : Cond.instanceMethod yX12_seekValue ∈ jw_tbl := jw_inT (jc_7 (List.mem_of_getElem? (i := 232) rfl)) rfl
set_option maxRecDepth 100000 in
theorem jt_1673 : Cond.code yX12_seekValue prog_14_method_83_code 5 (Option.none : Option FieldType) ∈ jw_tbl := jw_inT (jc_7 (List.mem_of_getElem? (i := 233) rfl)) rfl
set_option maxRecDepth 100000 in
theorem jt_1674 : Cond.methodLink RX12 329 yX12_layValue ∈ jw_tbl := jw_inT (jc_7 (List.mem_of_getElem? (i := 234) rfl)) rfl
set_option maxRecDepth 100000 in
theorem jt_1676 : Cond.instanceMethod yX12_layValue ∈ jw_tbl := jw_inT (jc_7 (List.mem_of_getElem? (i := 236) rfl)) rfl
set_option maxRecDepth 100000 in
theorem jt_1677 : Cond.code yX12_layValue prog_14_method_81_code 8 (Option.none : Option FieldType) ∈ jw_tbl := jw_inT (jc_7 (List.mem_of_getElem? (i := 237) rfl)) rfl
set_option maxRecDepth 100000 in
theorem jt_1678 : Cond.methodLink RX12 332 yX12_isAbove ∈ jw_tbl := jw_inT (jc_7 (List.mem_of_getElem? (i := 238) rfl)) rfl
set_option maxRecDepth 100000 in
theorem jt_1680 : Cond.instanceMethod yX12_isAbove ∈ jw_tbl := jw_inT (jc_8 (List.mem_of_getElem? (i := 0) rfl)) rfl
set_option maxRecDepth 100000 in
theorem jt_1681 : Cond.code yX12_isAbove prog_14_method_82_code 2 (Option.some FieldType.boolean) ∈ jw_tbl := jw_inT (jc_8 (List.mem_of_getElem? (i := 1) rfl)) rfl
set_option maxRecDepth 100000 in
theorem jt_1682 : Cond.methodLink RL 138 yX12_odds ∈ jw_tbl := jw_inT (jc_8 (List.mem_of_getElem? (i := 2) rfl)) rfl
set_option maxRecDepth 100000 in
theorem jt_1683 : Cond.instanceMethod yX12_odds ∈ jw_tbl := jw_inT (jc_8 (List.mem_of_getElem? (i := 3) rfl)) rfl
set_option maxRecDepth 100000 in
theorem jt_1684 : Cond.selects yX12_odds.cls yX12_odds yX12_odds ∈ jw_tbl := jw_inT (jc_8 (List.mem_of_getElem? (i := 4) rfl)) rfl
set_option maxRecDepth 100000 in
theorem jt_1685 : Cond.code yX12_odds prog_14_method_85_code 5 (Option.some FieldType.long) ∈ jw_tbl := jw_inT (jc_8 (List.mem_of_getElem? (i := 5) rfl)) rfl
set_option maxRecDepth 100000 in
theorem jt_1686 : Cond.methodLink RL 142 yX12_owe ∈ jw_tbl := jw_inT (jc_8 (List.mem_of_getElem? (i := 6) rfl)) rfl
set_option maxRecDepth 100000 in
theorem jt_1687 : Cond.instanceMethod yX12_owe ∈ jw_tbl := jw_inT (jc_8 (List.mem_of_getElem? (i := 7) rfl)) rfl
set_option maxRecDepth 100000 in
theorem jt_1688 : Cond.selects yX12_owe.cls yX12_owe yX12_owe ∈ jw_tbl := jw_inT (jc_8 (List.mem_of_getElem? (i := 8) rfl)) rfl
set_option maxRecDepth 100000 in
theorem jt_1689 : Cond.code yX12_owe prog_14_method_87_code 4 (Option.some FieldType.long) ∈ jw_tbl := jw_inT (jc_8 (List.mem_of_getElem? (i := 9) rfl)) rfl
set_option maxRecDepth 100000 in
theorem jt_1690 : Cond.methodLink RX12 340 yX12_owes ∈ jw_tbl := jw_inT (jc_8 (List.mem_of_getElem? (i := 10) rfl)) rfl
set_option maxRecDepth 100000 in
theorem jt_1692 : Cond.instanceMethod yX12_owes ∈ jw_tbl := jw_inT (jc_8 (List.mem_of_getElem? (i := 12) rfl)) rfl
set_option maxRecDepth 100000 in
theorem jt_1693 : Cond.code yX12_owes prog_14_method_86_code 3 (Option.some FieldType.int) ∈ jw_tbl := jw_inT (jc_8 (List.mem_of_getElem? (i := 13) rfl)) rfl
set_option maxRecDepth 100000 in
theorem jt_1694 : Cond.methodLink RL 146 yX12_owed ∈ jw_tbl := jw_inT (jc_8 (List.mem_of_getElem? (i := 14) rfl)) rfl
set_option maxRecDepth 100000 in
theorem jt_1695 : Cond.instanceMethod yX12_owed ∈ jw_tbl := jw_inT (jc_8 (List.mem_of_getElem? (i := 15) rfl)) rfl
set_option maxRecDepth 100000 in
theorem jt_1696 : Cond.selects yX12_owed.cls yX12_owed yX12_owed ∈ jw_tbl := jw_inT (jc_8 (List.mem_of_getElem? (i := 16) rfl)) rfl
set_option maxRecDepth 100000 in
theorem jt_1697 : Cond.code yX12_owed prog_14_method_88_code 3 (Option.some FieldType.long) ∈ jw_tbl := jw_inT (jc_8 (List.mem_of_getElem? (i := 17) rfl)) rfl
set_option maxRecDepth 100000 in
theorem jt_1698 : Cond.methodLink RL 150 yX12_passed ∈ jw_tbl := jw_inT (jc_8 (List.mem_of_getElem? (i := 18) rfl)) rfl
set_option maxRecDepth 100000 in
theorem jt_1699 : Cond.instanceMethod yX12_passed ∈ jw_tbl := jw_inT (jc_8 (List.mem_of_getElem? (i := 19) rfl)) rfl
set_option maxRecDepth 100000 in
theorem jt_1700 : Cond.selects yX12_passed.cls yX12_passed yX12_passed ∈ jw_tbl := jw_inT (jc_8 (List.mem_of_getElem? (i := 20) rfl)) rfl
set_option maxRecDepth 100000 in
theorem jt_1701 : Cond.code yX12_passed prog_14_method_91_code 2 (Option.some FieldType.long) ∈ jw_tbl := jw_inT (jc_8 (List.mem_of_getElem? (i := 21) rfl)) rfl
set_option maxRecDepth 100000 in
theorem jt_1702 : Cond.methodLink RX12 346 yX12_takesRing ∈ jw_tbl := jw_inT (jc_8 (List.mem_of_getElem? (i := 22) rfl)) rfl
set_option maxRecDepth 100000 in
theorem jt_1704 : Cond.instanceMethod yX12_takesRing ∈ jw_tbl := jw_inT (jc_8 (List.mem_of_getElem? (i := 24) rfl)) rfl
set_option maxRecDepth 100000 in
theorem jt_1705 : Cond.code yX12_takesRing prog_14_method_90_code 7 (Option.some FieldType.boolean) ∈ jw_tbl := jw_inT (jc_8 (List.mem_of_getElem? (i := 25) rfl)) rfl
set_option maxRecDepth 100000 in
theorem jt_1706 : Cond.methodLink RX12 343 yX12_layRing ∈ jw_tbl := jw_inT (jc_8 (List.mem_of_getElem? (i := 26) rfl)) rfl
set_option maxRecDepth 100000 in
theorem jt_1708 : Cond.instanceMethod yX12_layRing ∈ jw_tbl := jw_inT (jc_8 (List.mem_of_getElem? (i := 28) rfl)) rfl
set_option maxRecDepth 100000 in
theorem jt_1709 : Cond.code yX12_layRing prog_14_method_89_code 7 (Option.some FieldType.boolean) ∈ jw_tbl := jw_inT (jc_8 (List.mem_of_getElem? (i := 29) rfl)) rfl
set_option maxRecDepth 100000 in
theorem jt_1710 : Cond.methodLink RL 154 yX12_image ∈ jw_tbl := jw_inT (jc_8 (List.mem_of_getElem? (i := 30) rfl)) rfl
set_option maxRecDepth 100000 in
theorem jt_1711 : Cond.instanceMethod yX12_image ∈ jw_tbl := jw_inT (jc_8 (List.mem_of_getElem? (i := 31) rfl)) rfl
set_option maxRecDepth 100000 in
theorem jt_1712 : Cond.selects yX12_image.cls yX12_image yX12_image ∈ jw_tbl := jw_inT (jc_8 (List.mem_of_getElem? (i := 32) rfl)) rfl
set_option maxRecDepth 100000 in
theorem jt_1713 : Cond.code yX12_image prog_14_method_92_code 3 (Option.some FieldType.long) ∈ jw_tbl := jw_inT (jc_8 (List.mem_of_getElem? (i := 33) rfl)) rfl
set_option maxRecDepth 100000 in
theorem jt_1714 : Cond.methodLink RL 158 yX12_restore ∈ jw_tbl := jw_inT (jc_8 (List.mem_of_getElem? (i := 34) rfl)) rfl
set_option maxRecDepth 100000 in
theorem jt_1715 : Cond.instanceMethod yX12_restore ∈ jw_tbl := jw_inT (jc_8 (List.mem_of_getElem? (i := 35) rfl)) rfl
set_option maxRecDepth 100000 in
theorem jt_1716 : Cond.selects yX12_restore.cls yX12_restore yX12_restore ∈ jw_tbl := jw_inT (jc_8 (List.mem_of_getElem? (i := 36) rfl)) rfl
set_option maxRecDepth 100000 in
theorem jt_1717 : Cond.code yX12_restore prog_14_method_93_code 3 (Option.some FieldType.long) ∈ jw_tbl := jw_inT (jc_8 (List.mem_of_getElem? (i := 37) rfl)) rfl
set_option maxRecDepth 100000 in
theorem jt_1718 : Cond.methodLink RL 162 yX12_kind ∈ jw_tbl := jw_inT (jc_8 (List.mem_of_getElem? (i := 38) rfl)) rfl
set_option maxRecDepth 100000 in
theorem jt_1719 : Cond.instanceMethod yX12_kind ∈ jw_tbl := jw_inT (jc_8 (List.mem_of_getElem? (i := 39) rfl)) rfl
set_option maxRecDepth 100000 in
theorem jt_1720 : Cond.selects yX12_kind.cls yX12_kind yX12_kind ∈ jw_tbl := jw_inT (jc_8 (List.mem_of_getElem? (i := 40) rfl)) rfl
set_option maxRecDepth 100000 in
theorem jt_1721 : Cond.code yX12_kind prog_14_method_96_code 2 (Option.some FieldType.long) ∈ jw_tbl := jw_inT (jc_8 (List.mem_of_getElem? (i := 41) rfl)) rfl
set_option maxRecDepth 100000 in
theorem jt_1722 : Cond.methodLink RX12 349 yX12_kindOf ∈ jw_tbl := jw_inT (jc_8 (List.mem_of_getElem? (i := 42) rfl)) rfl
set_option maxRecDepth 100000 in
theorem jt_1724 : Cond.instanceMethod yX12_kindOf ∈ jw_tbl := jw_inT (jc_8 (List.mem_of_getElem? (i := 44) rfl)) rfl
set_option maxRecDepth 100000 in
theorem jt_1725 : Cond.code yX12_kindOf prog_14_method_94_code 3 (Option.some FieldType.int) ∈ jw_tbl := jw_inT (jc_8 (List.mem_of_getElem? (i := 45) rfl)) rfl
set_option maxRecDepth 100000 in
theorem jt_1726 : Cond.methodLink RL 166 yX12_as ∈ jw_tbl := jw_inT (jc_8 (List.mem_of_getElem? (i := 46) rfl)) rfl
set_option maxRecDepth 100000 in
theorem jt_1727 : Cond.instanceMethod yX12_as ∈ jw_tbl := jw_inT (jc_8 (List.mem_of_getElem? (i := 47) rfl)) rfl
set_option maxRecDepth 100000 in
theorem jt_1728 : Cond.selects yX12_as.cls yX12_as yX12_as ∈ jw_tbl := jw_inT (jc_8 (List.mem_of_getElem? (i := 48) rfl)) rfl
set_option maxRecDepth 100000 in
theorem jt_1729 : Cond.code yX12_as prog_14_method_97_code 3 (Option.some FieldType.long) ∈ jw_tbl := jw_inT (jc_8 (List.mem_of_getElem? (i := 49) rfl)) rfl
set_option maxRecDepth 100000 in
theorem jt_1730 : Cond.methodLink RX12 352 yX12_isOf ∈ jw_tbl := jw_inT (jc_8 (List.mem_of_getElem? (i := 50) rfl)) rfl
set_option maxRecDepth 100000 in
theorem jt_1731 : Cond.static yX12_isOf ∈ jw_tbl := jw_inT (jc_8 (List.mem_of_getElem? (i := 51) rfl)) rfl
set_option maxRecDepth 100000 in
theorem jt_1732 : Cond.code yX12_isOf prog_14_method_95_code 2 (Option.some FieldType.boolean) ∈ jw_tbl := jw_inT (jc_8 (List.mem_of_getElem? (i := 52) rfl)) rfl
set_option maxRecDepth 100000 in
theorem jt_1733 : Cond.methodLink RL 170 yX12_ask ∈ jw_tbl := jw_inT (jc_8 (List.mem_of_getElem? (i := 53) rfl)) rfl
set_option maxRecDepth 100000 in
theorem jt_1734 : Cond.instanceMethod yX12_ask ∈ jw_tbl := jw_inT (jc_8 (List.mem_of_getElem? (i := 54) rfl)) rfl
set_option maxRecDepth 100000 in
theorem jt_1735 : Cond.selects yX12_ask.cls yX12_ask yX12_ask ∈ jw_tbl := jw_inT (jc_8 (List.mem_of_getElem? (i := 55) rfl)) rfl
set_option maxRecDepth 100000 in
theorem jt_1736 : Cond.code yX12_ask prog_14_method_102_code 3 (Option.some FieldType.long) ∈ jw_tbl := jw_inT (jc_8 (List.mem_of_getElem? (i := 56) rfl)) rfl
set_option maxRecDepth 100000 in
theorem jt_1737 : Cond.methodLink RX12 367 yX12_ownSize ∈ jw_tbl := jw_inT (jc_8 (List.mem_of_getElem? (i := 57) rfl)) rfl
set_option maxRecDepth 100000 in
theorem jt_1739 : Cond.instanceMethod yX12_ownSize ∈ jw_tbl := jw_inT (jc_8 (List.mem_of_getElem? (i := 59) rfl)) rfl
set_option maxRecDepth 100000 in
theorem jt_1740 : Cond.code yX12_ownSize prog_14_method_101_code 4 (Option.some FieldType.int) ∈ jw_tbl := jw_inT (jc_8 (List.mem_of_getElem? (i := 60) rfl)) rfl
set_option maxRecDepth 100000 in
theorem jt_1741 : Cond.methodLink RX12 361 yX12_caughtSize ∈ jw_tbl := jw_inT (jc_8 (List.mem_of_getElem? (i := 61) rfl)) rfl
set_option maxRecDepth 100000 in
theorem jt_1743 : Cond.instanceMethod yX12_caughtSize ∈ jw_tbl := jw_inT (jc_8 (List.mem_of_getElem? (i := 63) rfl)) rfl
set_option maxRecDepth 100000 in
theorem jt_1744 : Cond.code yX12_caughtSize prog_14_method_99_code 3 (Option.some FieldType.int) ∈ jw_tbl := jw_inT (jc_8 (List.mem_of_getElem? (i := 64) rfl)) rfl
set_option maxRecDepth 100000 in
theorem jt_1745 : Cond.methodLink RX12 358 yX12_began ∈ jw_tbl := jw_inT (jc_8 (List.mem_of_getElem? (i := 65) rfl)) rfl
set_option maxRecDepth 100000 in
theorem jt_1747 : Cond.instanceMethod yX12_began ∈ jw_tbl := jw_inT (jc_8 (List.mem_of_getElem? (i := 67) rfl)) rfl
set_option maxRecDepth 100000 in
theorem jt_1748 : Cond.code yX12_began prog_14_method_98_code 2 (Option.none : Option FieldType) ∈ jw_tbl := jw_inT (jc_8 (List.mem_of_getElem? (i := 68) rfl)) rfl
set_option maxRecDepth 100000 in
theorem jt_1749 : Cond.methodLink RX12 364 yX12_ownMark ∈ jw_tbl := jw_inT (jc_8 (List.mem_of_getElem? (i := 69) rfl)) rfl
set_option maxRecDepth 100000 in
theorem jt_1751 : Cond.instanceMethod yX12_ownMark ∈ jw_tbl := jw_inT (jc_8 (List.mem_of_getElem? (i := 71) rfl)) rfl
set_option maxRecDepth 100000 in
theorem jt_1752 : Cond.code yX12_ownMark prog_14_method_100_code 3 (Option.some FieldType.int) ∈ jw_tbl := jw_inT (jc_8 (List.mem_of_getElem? (i := 72) rfl)) rfl
set_option maxRecDepth 100000 in
theorem jt_1753 : Cond.methodLink RL 175 yX12_trace ∈ jw_tbl := jw_inT (jc_8 (List.mem_of_getElem? (i := 73) rfl)) rfl
set_option maxRecDepth 100000 in
theorem jt_1754 : Cond.instanceMethod yX12_trace ∈ jw_tbl := jw_inT (jc_8 (List.mem_of_getElem? (i := 74) rfl)) rfl
set_option maxRecDepth 100000 in
theorem jt_1755 : Cond.selects yX12_trace.cls yX12_trace yX12_trace ∈ jw_tbl := jw_inT (jc_8 (List.mem_of_getElem? (i := 75) rfl)) rfl
set_option maxRecDepth 100000 in
theorem jt_1756 : Cond.code yX12_trace prog_14_method_103_code 2 (Option.some FieldType.int) ∈ jw_tbl := jw_inT (jc_8 (List.mem_of_getElem? (i := 76) rfl)) rfl
set_option maxRecDepth 100000 in
theorem jt_1757 : Cond.methodLink RL 179 yX12_count ∈ jw_tbl := jw_inT (jc_8 (List.mem_of_getElem? (i := 77) rfl)) rfl
set_option maxRecDepth 100000 in
theorem jt_1758 : Cond.instanceMethod yX12_count ∈ jw_tbl := jw_inT (jc_8 (List.mem_of_getElem? (i := 78) rfl)) rfl
set_option maxRecDepth 100000 in
theorem jt_1759 : Cond.selects yX12_count.cls yX12_count yX12_count ∈ jw_tbl := jw_inT (jc_8 (List.mem_of_getElem? (i := 79) rfl)) rfl
set_option maxRecDepth 100000 in
theorem jt_1760 : Cond.code yX12_count prog_14_method_104_code 4 (Option.some FieldType.long) ∈ jw_tbl := jw_inT (jc_8 (List.mem_of_getElem? (i := 80) rfl)) rfl
set_option maxRecDepth 100000 in
theorem jt_1761 : Cond.methodLink RL 183 yX12_status ∈ jw_tbl := jw_inT (jc_8 (List.mem_of_getElem? (i := 81) rfl)) rfl
set_option maxRecDepth 100000 in
theorem jt_1762 : Cond.instanceMethod yX12_status ∈ jw_tbl := jw_inT (jc_8 (List.mem_of_getElem? (i := 82) rfl)) rfl
set_option maxRecDepth 100000 in
theorem jt_1763 : Cond.selects yX12_status.cls yX12_status yX12_status ∈ jw_tbl := jw_inT (jc_8 (List.mem_of_getElem? (i := 83) rfl)) rfl
set_option maxRecDepth 100000 in
theorem jt_1764 : Cond.code yX12_status prog_14_method_105_code 1 (Option.some FieldType.int) ∈ jw_tbl := jw_inT (jc_8 (List.mem_of_getElem? (i := 84) rfl)) rfl
set_option maxRecDepth 100000 in
theorem jt_1765 : Cond.constantLong RL 32 (4294967295 : Int64) ∈ jw_tbl := jw_inT (jc_8 (List.mem_of_getElem? (i := 85) rfl)) rfl
set_option maxRecDepth 100000 in
theorem jt_1766 : Cond.fieldLink RJ0 9 "java/lang/String" "value" "[B" ∈ jw_tbl := jw_inT (jc_8 (List.mem_of_getElem? (i := 86) rfl)) rfl
set_option maxRecDepth 100000 in
theorem jt_1767 : Cond.fieldLink RJ0 15 "java/lang/String" "coder" "B" ∈ jw_tbl := jw_inT (jc_8 (List.mem_of_getElem? (i := 87) rfl)) rfl
set_option maxRecDepth 100000 in
theorem jp_0 : Cond.selects yX11_found.cls yX11_found yX11_found ∈ jw_tbl := jw_inT (List.mem_append_left _ (List.mem_of_getElem? (i := 0) rfl)) rfl
set_option maxRecDepth 100000 in
theorem jp_1 : Cond.selects yX11_foundNothing.cls yX11_foundNothing yX11_foundNothing ∈ jw_tbl := jw_inT (List.mem_append_left _ (List.mem_of_getElem? (i := 1) rfl)) rfl
set_option maxRecDepth 100000 in
theorem jp_2 : Cond.selects yX4_nextToken.cls yX4_nextToken yX4_nextToken ∈ jw_tbl := jw_inT (List.mem_append_left _ (List.mem_of_getElem? (i := 2) rfl)) rfl
set_option maxRecDepth 100000 in
theorem jp_3 : Cond.selects yX4_endOfName.cls yX4_endOfName yX4_endOfName ∈ jw_tbl := jw_inT (List.mem_append_left _ (List.mem_of_getElem? (i := 3) rfl)) rfl
set_option maxRecDepth 100000 in
theorem jp_4 : Cond.selects yX4_takeNumber.cls yX4_takeNumber yX4_takeNumber ∈ jw_tbl := jw_inT (List.mem_append_left _ (List.mem_of_getElem? (i := 4) rfl)) rfl
set_option maxRecDepth 100000 in
theorem jp_5 : Cond.selects yX9_minutesToPass.cls yX9_minutesToPass yX9_minutesToPass ∈ jw_tbl := jw_inT (List.mem_append_left _ (List.mem_of_getElem? (i := 5) rfl)) rfl
set_option maxRecDepth 100000 in
theorem jp_6 : Cond.selects yX9_shorten.cls yX9_shorten yX9_shorten ∈ jw_tbl := jw_inT (List.mem_append_left _ (List.mem_of_getElem? (i := 6) rfl)) rfl
set_option maxRecDepth 100000 in
theorem jp_7 : Cond.selects yX4_wordHere.cls yX4_wordHere yX4_wordHere ∈ jw_tbl := jw_inT (List.mem_append_left _ (List.mem_of_getElem? (i := 7) rfl)) rfl
set_option maxRecDepth 100000 in
theorem jp_8 : Cond.selects yX4_spells.cls yX4_spells yX4_spells ∈ jw_tbl := jw_inT (List.mem_append_left _ (List.mem_of_getElem? (i := 8) rfl)) rfl
set_option maxRecDepth 100000 in
theorem jp_9 : Cond.selects yX4_statement.cls yX4_statement yX4_statement ∈ jw_tbl := jw_inT (List.mem_append_left _ (List.mem_of_getElem? (i := 9) rfl)) rfl
set_option maxRecDepth 100000 in
theorem jp_10 : Cond.selects yX4_isAsTold.cls yX4_isAsTold yX4_isAsTold ∈ jw_tbl := jw_inT (List.mem_append_left _ (List.mem_of_getElem? (i := 10) rfl)) rfl
set_option maxRecDepth 100000 in
theorem jp_11 : Cond.selects yX4_take.cls yX4_take yX4_take ∈ jw_tbl := jw_inT (List.mem_append_left _ (List.mem_of_getElem? (i := 11) rfl)) rfl
set_option maxRecDepth 100000 in
theorem jp_12 : Cond.selects yX11_raidFrom.cls yX11_raidFrom yX11_raidFrom ∈ jw_tbl := jw_inT (List.mem_append_left _ (List.mem_of_getElem? (i := 12) rfl)) rfl
set_option maxRecDepth 100000 in
theorem jp_13 : Cond.selects yX11_isRoute.cls yX11_isRoute yX11_isRoute ∈ jw_tbl := jw_inT (List.mem_append_left _ (List.mem_of_getElem? (i := 13) rfl)) rfl
set_option maxRecDepth 100000 in
theorem jp_14 : Cond.selects yX11_walkRoute.cls yX11_walkRoute yX11_walkRoute ∈ jw_tbl := jw_inT (List.mem_append_left _ (List.mem_of_getElem? (i := 14) rfl)) rfl
set_option maxRecDepth 100000 in
theorem jp_15 : Cond.selects yX3_warning.cls yX3_warning yX3_warning ∈ jw_tbl := jw_inT (List.mem_append_left _ (List.mem_of_getElem? (i := 15) rfl)) rfl
set_option maxRecDepth 100000 in
theorem jp_16 : Cond.selects yX3_sparedBy.cls yX3_sparedBy yX3_sparedBy ∈ jw_tbl := jw_inT (List.mem_append_left _ (List.mem_of_getElem? (i := 16) rfl)) rfl
set_option maxRecDepth 100000 in
theorem jp_17 : Cond.selects yX11_goneOf.cls yX11_goneOf yX11_goneOf ∈ jw_tbl := jw_inT (List.mem_append_left _ (List.mem_of_getElem? (i := 17) rfl)) rfl
set_option maxRecDepth 100000 in
theorem jp_18 : Cond.selects yX11_lostInAll.cls yX11_lostInAll yX11_lostInAll ∈ jw_tbl := jw_inT (List.mem_append_left _ (List.mem_of_getElem? (i := 18) rfl)) rfl
set_option maxRecDepth 100000 in
theorem jp_19 : Cond.selects yX8_bestCorner.cls yX8_bestCorner yX8_bestCorner ∈ jw_tbl := jw_inT (List.mem_append_left _ (List.mem_of_getElem? (i := 19) rfl)) rfl
set_option maxRecDepth 100000 in
theorem jp_20 : Cond.selects yX8_moveOnce.cls yX8_moveOnce yX8_moveOnce ∈ jw_tbl := jw_inT (List.mem_append_left _ (List.mem_of_getElem? (i := 20) rfl)) rfl
set_option maxRecDepth 100000 in
theorem jp_21 : Cond.selects yX8_fillScores.cls yX8_fillScores yX8_fillScores ∈ jw_tbl := jw_inT (List.mem_append_left _ (List.mem_of_getElem? (i := 21) rfl)) rfl
set_option maxRecDepth 100000 in
theorem jp_22 : Cond.selects yX8_place.cls yX8_place yX8_place ∈ jw_tbl := jw_inT (List.mem_append_left _ (List.mem_of_getElem? (i := 22) rfl)) rfl
set_option maxRecDepth 100000 in
theorem jp_23 : Cond.selects yX8_noteIfAtRest.cls yX8_noteIfAtRest yX8_noteIfAtRest ∈ jw_tbl := jw_inT (List.mem_append_left _ (List.mem_of_getElem? (i := 23) rfl)) rfl
set_option maxRecDepth 100000 in
theorem jp_24 : Cond.selects yX8_wantsToMove.cls yX8_wantsToMove yX8_wantsToMove ∈ jw_tbl := jw_inT (List.mem_append_left _ (List.mem_of_getElem? (i := 24) rfl)) rfl
set_option maxRecDepth 100000 in
theorem jp_25 : Cond.selects yX8_searchedScore.cls yX8_searchedScore yX8_searchedScore ∈ jw_tbl := jw_inT (List.mem_append_left _ (List.mem_of_getElem? (i := 25) rfl)) rfl
set_option maxRecDepth 100000 in
theorem jp_26 : Cond.selects yX8_isClear.cls yX8_isClear yX8_isClear ∈ jw_tbl := jw_inT (List.mem_append_left _ (List.mem_of_getElem? (i := 26) rfl)) rfl
set_option maxRecDepth 100000 in
theorem jp_27 : Cond.selects yX8_numberOfWay.cls yX8_numberOfWay yX8_numberOfWay ∈ jw_tbl := jw_inT (List.mem_append_left _ (List.mem_of_getElem? (i := 27) rfl)) rfl
set_option maxRecDepth 100000 in
theorem jp_28 : Cond.selects yX5_gain.cls yX5_gain yX5_gain ∈ jw_tbl := jw_inT (List.mem_append_left _ (List.mem_of_getElem? (i := 28) rfl)) rfl
set_option maxRecDepth 100000 in
theorem jp_29 : Cond.selects yX5_leastFrom.cls yX5_leastFrom yX5_leastFrom ∈ jw_tbl := jw_inT (List.mem_append_left _ (List.mem_of_getElem? (i := 29) rfl)) rfl
set_option maxRecDepth 100000 in
theorem jp_30 : Cond.selects yX5_costWith.cls yX5_costWith yX5_costWith ∈ jw_tbl := jw_inT (List.mem_append_left _ (List.mem_of_getElem? (i := 30) rfl)) rfl
set_option maxRecDepth 100000 in
theorem jp_31 : Cond.selects yX5_firstOfLeast.cls yX5_firstOfLeast yX5_firstOfLeast ∈ jw_tbl := jw_inT (List.mem_append_left _ (List.mem_of_getElem? (i := 31) rfl)) rfl
set_option maxRecDepth 100000 in
theorem jp_32 : Cond.selects yX9_parts.cls yX9_parts yX9_parts ∈ jw_tbl := jw_inT (List.mem_append_left _ (List.mem_of_getElem? (i := 32) rfl)) rfl
set_option maxRecDepth 100000 in
theorem jp_33 : Cond.selects yX9_beside.cls yX9_beside yX9_beside ∈ jw_tbl := jw_inT (List.mem_append_left _ (List.mem_of_getElem? (i := 33) rfl)) rfl
set_option maxRecDepth 100000 in
theorem jp_34 : Cond.selects yX5_bestWithout.cls yX5_bestWithout yX5_bestWithout ∈ jw_tbl := jw_inT (List.mem_append_left _ (List.mem_of_getElem? (i := 34) rfl)) rfl
set_option maxRecDepth 100000 in
theorem jp_35 : Cond.selects yX11_arePair.cls yX11_arePair yX11_arePair ∈ jw_tbl := jw_inT (List.mem_append_left _ (List.mem_of_getElem? (i := 35) rfl)) rfl
set_option maxRecDepth 100000 in
theorem jp_36 : Cond.selects yX2_firstRing.cls yX2_firstRing yX2_firstRing ∈ jw_tbl := jw_inT (List.mem_append_left _ (List.mem_of_getElem? (i := 36) rfl)) rfl
set_option maxRecDepth 100000 in
theorem jp_37 : Cond.selects yX2_closes.cls yX2_closes yX2_closes ∈ jw_tbl := jw_inT (List.mem_append_left _ (List.mem_of_getElem? (i := 37) rfl)) rfl
set_option maxRecDepth 100000 in
theorem jp_38 : Cond.selects yX2_isInRing.cls yX2_isInRing yX2_isInRing ∈ jw_tbl := jw_inT (List.mem_append_left _ (List.mem_of_getElem? (i := 38) rfl)) rfl
set_option maxRecDepth 100000 in
theorem jp_39 : Cond.selects yX2_lessen.cls yX2_lessen yX2_lessen ∈ jw_tbl := jw_inT (List.mem_append_left _ (List.mem_of_getElem? (i := 39) rfl)) rfl
set_option maxRecDepth 100000 in
theorem jp_40 : Cond.selects yX2_nextInRing.cls yX2_nextInRing yX2_nextInRing ∈ jw_tbl := jw_inT (List.mem_append_left _ (List.mem_of_getElem? (i := 40) rfl)) rfl
set_option maxRecDepth 100000 in
theorem jp_41 : Cond.selects yX0_body.cls yX0_body yX0_body ∈ jw_tbl := jw_inT (List.mem_append_left _ (List.mem_of_getElem? (i := 41) rfl)) rfl
set_option maxRecDepth 100000 in
theorem jp_42 : Cond.selects yX0_begins.cls yX0_begins yX0_begins ∈ jw_tbl := jw_inT (List.mem_append_left _ (List.mem_of_getElem? (i := 42) rfl)) rfl
set_option maxRecDepth 100000 in
theorem jp_43 : Cond.selects yX12_finding.cls yX12_finding yX12_finding ∈ jw_tbl := jw_inT (List.mem_append_left _ (List.mem_of_getElem? (i := 43) rfl)) rfl
set_option maxRecDepth 100000 in
theorem jp_44 : Cond.selects yX12_next.cls yX12_next yX12_next ∈ jw_tbl := jw_inT (List.mem_append_left _ (List.mem_of_getElem? (i := 44) rfl)) rfl
set_option maxRecDepth 100000 in
theorem jp_45 : Cond.selects yX12_byteAt.cls yX12_byteAt yX12_byteAt ∈ jw_tbl := jw_inT (List.mem_append_left _ (List.mem_of_getElem? (i := 45) rfl)) rfl
set_option maxRecDepth 100000 in
theorem jp_46 : Cond.selects yX12_word.cls yX12_word yX12_word ∈ jw_tbl := jw_inT (List.mem_append_left _ (List.mem_of_getElem? (i := 46) rfl)) rfl
set_option maxRecDepth 100000 in
theorem jp_47 : Cond.selects yX12_bad.cls yX12_bad yX12_bad ∈ jw_tbl := jw_inT (List.mem_append_left _ (List.mem_of_getElem? (i := 47) rfl)) rfl
set_option maxRecDepth 100000 in
theorem jp_48 : Cond.selects yX12_readCorner.cls yX12_readCorner yX12_readCorner ∈ jw_tbl := jw_inT (List.mem_append_left _ (List.mem_of_getElem? (i := 48) rfl)) rfl
set_option maxRecDepth 100000 in
theorem jp_49 : Cond.selects yX12_begins.cls yX12_begins yX12_begins ∈ jw_tbl := jw_inT (List.mem_append_left _ (List.mem_of_getElem? (i := 49) rfl)) rfl
set_option maxRecDepth 100000 in
theorem jp_50 : Cond.selects yX12_must.cls yX12_must yX12_must ∈ jw_tbl := jw_inT (List.mem_append_left _ (List.mem_of_getElem? (i := 50) rfl)) rfl
set_option maxRecDepth 100000 in
theorem jp_51 : Cond.selects yX12_number.cls yX12_number yX12_number ∈ jw_tbl := jw_inT (List.mem_append_left _ (List.mem_of_getElem? (i := 51) rfl)) rfl
set_option maxRecDepth 100000 in
theorem jp_52 : Cond.selects yX12_numberBut.cls yX12_numberBut yX12_numberBut ∈ jw_tbl := jw_inT (List.mem_append_left _ (List.mem_of_getElem? (i := 52) rfl)) rfl
set_option maxRecDepth 100000 in
theorem jp_53 : Cond.selects yX12_ends.cls yX12_ends yX12_ends ∈ jw_tbl := jw_inT (List.mem_append_left _ (List.mem_of_getElem? (i := 53) rfl)) rfl
set_option maxRecDepth 100000 in
theorem jp_54 : Cond.selects yX12_readStreet.cls yX12_readStreet yX12_readStreet ∈ jw_tbl := jw_inT (List.mem_append_left _ (List.mem_of_getElem? (i := 54) rfl)) rfl
set_option maxRecDepth 100000 in
theorem jp_55 : Cond.selects yX12_corner.cls yX12_corner yX12_corner ∈ jw_tbl := jw_inT (List.mem_append_left _ (List.mem_of_getElem? (i := 55) rfl)) rfl
set_option maxRecDepth 100000 in
theorem jp_56 : Cond.selects yX12_readGoods.cls yX12_readGoods yX12_readGoods ∈ jw_tbl := jw_inT (List.mem_append_left _ (List.mem_of_getElem? (i := 56) rfl)) rfl
set_option maxRecDepth 100000 in
theorem jp_57 : Cond.selects yX12_readPeople.cls yX12_readPeople yX12_readPeople ∈ jw_tbl := jw_inT (List.mem_append_left _ (List.mem_of_getElem? (i := 57) rfl)) rfl
set_option maxRecDepth 100000 in
theorem jp_58 : Cond.selects yX12_readSeller.cls yX12_readSeller yX12_readSeller ∈ jw_tbl := jw_inT (List.mem_append_left _ (List.mem_of_getElem? (i := 58) rfl)) rfl
set_option maxRecDepth 100000 in
theorem jp_59 : Cond.selects yX12_readWatcher.cls yX12_readWatcher yX12_readWatcher ∈ jw_tbl := jw_inT (List.mem_append_left _ (List.mem_of_getElem? (i := 59) rfl)) rfl
set_option maxRecDepth 100000 in
theorem jp_60 : Cond.selects yX12_readCellar.cls yX12_readCellar yX12_readCellar ∈ jw_tbl := jw_inT (List.mem_append_left _ (List.mem_of_getElem? (i := 60) rfl)) rfl
set_option maxRecDepth 100000 in
theorem jp_61 : Cond.selects yX12_readLaw.cls yX12_readLaw yX12_readLaw ∈ jw_tbl := jw_inT (List.mem_append_left _ (List.mem_of_getElem? (i := 61) rfl)) rfl
set_option maxRecDepth 100000 in
theorem jp_62 : Cond.selects yX12_layWays.cls yX12_layWays yX12_layWays ∈ jw_tbl := jw_inT (List.mem_append_left _ (List.mem_of_getElem? (i := 62) rfl)) rfl
set_option maxRecDepth 100000 in
theorem jp_63 : Cond.selects yX12_isCorner.cls yX12_isCorner yX12_isCorner ∈ jw_tbl := jw_inT (List.mem_append_left _ (List.mem_of_getElem? (i := 63) rfl)) rfl
set_option maxRecDepth 100000 in
theorem jp_64 : Cond.selects yX12_isSeller.cls yX12_isSeller yX12_isSeller ∈ jw_tbl := jw_inT (List.mem_append_left _ (List.mem_of_getElem? (i := 64) rfl)) rfl
set_option maxRecDepth 100000 in
theorem jp_65 : Cond.selects yX12_goodsOf.cls yX12_goodsOf yX12_goodsOf ∈ jw_tbl := jw_inT (List.mem_append_left _ (List.mem_of_getElem? (i := 65) rfl)) rfl
set_option maxRecDepth 100000 in
theorem jp_66 : Cond.selects yX12_isWatcher.cls yX12_isWatcher yX12_isWatcher ∈ jw_tbl := jw_inT (List.mem_append_left _ (List.mem_of_getElem? (i := 66) rfl)) rfl
set_option maxRecDepth 100000 in
theorem jp_67 : Cond.selects yX12_clearComes.cls yX12_clearComes yX12_clearComes ∈ jw_tbl := jw_inT (List.mem_append_left _ (List.mem_of_getElem? (i := 67) rfl)) rfl
set_option maxRecDepth 100000 in
theorem jp_68 : Cond.selects yX12_goRoute.cls yX12_goRoute yX12_goRoute ∈ jw_tbl := jw_inT (List.mem_append_left _ (List.mem_of_getElem? (i := 68) rfl)) rfl
set_option maxRecDepth 100000 in
theorem jp_69 : Cond.selects yX12_layRaid.cls yX12_layRaid yX12_layRaid ∈ jw_tbl := jw_inT (List.mem_append_left _ (List.mem_of_getElem? (i := 69) rfl)) rfl
set_option maxRecDepth 100000 in
theorem jp_70 : Cond.selects yX12_warnedOf.cls yX12_warnedOf yX12_warnedOf ∈ jw_tbl := jw_inT (List.mem_append_left _ (List.mem_of_getElem? (i := 70) rfl)) rfl
set_option maxRecDepth 100000 in
theorem jp_71 : Cond.selects yX12_isCaught.cls yX12_isCaught yX12_isCaught ∈ jw_tbl := jw_inT (List.mem_append_left _ (List.mem_of_getElem? (i := 71) rfl)) rfl
set_option maxRecDepth 100000 in
theorem jp_72 : Cond.selects yX12_lostBy.cls yX12_lostBy yX12_lostBy ∈ jw_tbl := jw_inT (List.mem_append_left _ (List.mem_of_getElem? (i := 72) rfl)) rfl
set_option maxRecDepth 100000 in
theorem jp_73 : Cond.selects yX12_becameOf.cls yX12_becameOf yX12_becameOf ∈ jw_tbl := jw_inT (List.mem_append_left _ (List.mem_of_getElem? (i := 73) rfl)) rfl
set_option maxRecDepth 100000 in
theorem jp_74 : Cond.selects yX12_lostOf.cls yX12_lostOf yX12_lostOf ∈ jw_tbl := jw_inT (List.mem_append_left _ (List.mem_of_getElem? (i := 74) rfl)) rfl
set_option maxRecDepth 100000 in
theorem jp_75 : Cond.selects yX12_goneOf.cls yX12_goneOf yX12_goneOf ∈ jw_tbl := jw_inT (List.mem_append_left _ (List.mem_of_getElem? (i := 75) rfl)) rfl
set_option maxRecDepth 100000 in
theorem jp_76 : Cond.selects yX12_timesAt.cls yX12_timesAt yX12_timesAt ∈ jw_tbl := jw_inT (List.mem_append_left _ (List.mem_of_getElem? (i := 76) rfl)) rfl
set_option maxRecDepth 100000 in
theorem jp_77 : Cond.selects yX12_scoreOf.cls yX12_scoreOf yX12_scoreOf ∈ jw_tbl := jw_inT (List.mem_append_left _ (List.mem_of_getElem? (i := 77) rfl)) rfl
set_option maxRecDepth 100000 in
theorem jp_78 : Cond.selects yX12_mayOf.cls yX12_mayOf yX12_mayOf ∈ jw_tbl := jw_inT (List.mem_append_left _ (List.mem_of_getElem? (i := 78) rfl)) rfl
set_option maxRecDepth 100000 in
theorem jp_79 : Cond.selects yX12_mayStand.cls yX12_mayStand yX12_mayStand ∈ jw_tbl := jw_inT (List.mem_append_left _ (List.mem_of_getElem? (i := 79) rfl)) rfl
set_option maxRecDepth 100000 in
theorem jp_80 : Cond.selects yX12_areAtRest.cls yX12_areAtRest yX12_areAtRest ∈ jw_tbl := jw_inT (List.mem_append_left _ (List.mem_of_getElem? (i := 80) rfl)) rfl
set_option maxRecDepth 100000 in
theorem jp_81 : Cond.selects yX12_bestOf.cls yX12_bestOf yX12_bestOf ∈ jw_tbl := jw_inT (List.mem_append_left _ (List.mem_of_getElem? (i := 81) rfl)) rfl
set_option maxRecDepth 100000 in
theorem jp_82 : Cond.selects yX12_savedBy.cls yX12_savedBy yX12_savedBy ∈ jw_tbl := jw_inT (List.mem_append_left _ (List.mem_of_getElem? (i := 82) rfl)) rfl
set_option maxRecDepth 100000 in
theorem jp_83 : Cond.selects yX12_gainOf.cls yX12_gainOf yX12_gainOf ∈ jw_tbl := jw_inT (List.mem_append_left _ (List.mem_of_getElem? (i := 83) rfl)) rfl
set_option maxRecDepth 100000 in
theorem jp_84 : Cond.selects yX12_storeCost.cls yX12_storeCost yX12_storeCost ∈ jw_tbl := jw_inT (List.mem_append_left _ (List.mem_of_getElem? (i := 84) rfl)) rfl
set_option maxRecDepth 100000 in
theorem jp_85 : Cond.selects yX12_layRoom.cls yX12_layRoom yX12_layRoom ∈ jw_tbl := jw_inT (List.mem_append_left _ (List.mem_of_getElem? (i := 85) rfl)) rfl
set_option maxRecDepth 100000 in
theorem jp_86 : Cond.selects yX12_goesMore.cls yX12_goesMore yX12_goesMore ∈ jw_tbl := jw_inT (List.mem_append_left _ (List.mem_of_getElem? (i := 86) rfl)) rfl
set_option maxRecDepth 100000 in
theorem jp_87 : Cond.selects yX12_seekValue.cls yX12_seekValue yX12_seekValue ∈ jw_tbl := jw_inT (List.mem_append_left _ (List.mem_of_getElem? (i := 87) rfl)) rfl
set_option maxRecDepth 100000 in
theorem jp_88 : Cond.selects yX12_layValue.cls yX12_layValue yX12_layValue ∈ jw_tbl := jw_inT (List.mem_append_left _ (List.mem_of_getElem? (i := 88) rfl)) rfl
set_option maxRecDepth 100000 in
theorem jp_89 : Cond.selects yX12_isAbove.cls yX12_isAbove yX12_isAbove ∈ jw_tbl := jw_inT (List.mem_append_left _ (List.mem_of_getElem? (i := 89) rfl)) rfl
set_option maxRecDepth 100000 in
theorem jp_90 : Cond.selects yX12_owes.cls yX12_owes yX12_owes ∈ jw_tbl := jw_inT (List.mem_append_left _ (List.mem_of_getElem? (i := 90) rfl)) rfl
set_option maxRecDepth 100000 in
theorem jp_91 : Cond.selects yX12_takesRing.cls yX12_takesRing yX12_takesRing ∈ jw_tbl := jw_inT (List.mem_append_left _ (List.mem_of_getElem? (i := 91) rfl)) rfl
set_option maxRecDepth 100000 in
theorem jp_92 : Cond.selects yX12_layRing.cls yX12_layRing yX12_layRing ∈ jw_tbl := jw_inT (List.mem_append_left _ (List.mem_of_getElem? (i := 92) rfl)) rfl
set_option maxRecDepth 100000 in
theorem jp_93 : Cond.selects yX12_kindOf.cls yX12_kindOf yX12_kindOf ∈ jw_tbl := jw_inT (List.mem_append_left _ (List.mem_of_getElem? (i := 93) rfl)) rfl
set_option maxRecDepth 100000 in
theorem jp_94 : Cond.selects yX12_ownSize.cls yX12_ownSize yX12_ownSize ∈ jw_tbl := jw_inT (List.mem_append_left _ (List.mem_of_getElem? (i := 94) rfl)) rfl
set_option maxRecDepth 100000 in
theorem jp_95 : Cond.selects yX12_caughtSize.cls yX12_caughtSize yX12_caughtSize ∈ jw_tbl := jw_inT (List.mem_append_left _ (List.mem_of_getElem? (i := 95) rfl)) rfl
set_option maxRecDepth 100000 in
theorem jp_96 : Cond.selects yX12_began.cls yX12_began yX12_began ∈ jw_tbl := jw_inT (List.mem_append_left _ (List.mem_of_getElem? (i := 96) rfl)) rfl
set_option maxRecDepth 100000 in
theorem jp_97 : Cond.selects yX12_ownMark.cls yX12_ownMark yX12_ownMark ∈ jw_tbl := jw_inT (List.mem_append_left _ (List.mem_of_getElem? (i := 97) rfl)) rfl
