/-! words of the tables, by program: WG the good ones, WN the links between nest mates -/
def WG : List Cond := lw_tbl.filter goodWord
theorem WG_of {i : Nat} {w : Cond} (h : tables_1[i]? = some w) (g : goodWord w = true) : w ∈ WG := List.mem_filter.mpr ⟨List.mem_append_right _ (List.mem_of_getElem? h), g⟩
theorem wn_RL : (Cond.initialized RL) ∈ WG := WG_of (i := 0) (by decide +kernel) rfl
theorem wn_RX10 : (Cond.initialized RX10) ∈ WG := WG_of (i := 1) (by decide +kernel) rfl
theorem wn_RJ9 : (Cond.initialized RJ9) ∈ WG := WG_of (i := 2) (by decide +kernel) rfl
theorem wn_RX7 : (Cond.initialized RX7) ∈ WG := WG_of (i := 3) (by decide +kernel) rfl
theorem wn_RJxa1e45 : (Cond.initialized RJxa1e45) ∈ WG := WG_of (i := 4) (by decide +kernel) rfl
theorem wn_RJxc12de : (Cond.initialized RJxc12de) ∈ WG := WG_of (i := 5) (by decide +kernel) rfl
theorem wn_RJx4a65c : (Cond.initialized RJx4a65c) ∈ WG := WG_of (i := 6) (by decide +kernel) rfl
theorem wn_RX2 : (Cond.initialized RX2) ∈ WG := WG_of (i := 7) (by decide +kernel) rfl
theorem wn_RX1 : (Cond.initialized RX1) ∈ WG := WG_of (i := 8) (by decide +kernel) rfl
theorem wn_RX9 : (Cond.initialized RX9) ∈ WG := WG_of (i := 9) (by decide +kernel) rfl
theorem wn_RX5 : (Cond.initialized RX5) ∈ WG := WG_of (i := 10) (by decide +kernel) rfl
theorem wn_RJ7 : (Cond.initialized RJ7) ∈ WG := WG_of (i := 11) (by decide +kernel) rfl
theorem wn_RJ8 : (Cond.initialized RJ8) ∈ WG := WG_of (i := 12) (by decide +kernel) rfl
theorem wn_RJ10 : (Cond.initialized RJ10) ∈ WG := WG_of (i := 13) (by decide +kernel) rfl
theorem wn_RX11 : (Cond.initialized RX11) ∈ WG := WG_of (i := 14) (by decide +kernel) rfl
theorem wn_java_lang_Throwable : (Cond.initialized "java/lang/Throwable") ∈ WG := WG_of (i := 15) (by decide +kernel) rfl
theorem wn_java_lang_Exception : (Cond.initialized "java/lang/Exception") ∈ WG := WG_of (i := 16) (by decide +kernel) rfl
theorem wn_java_lang_RuntimeException : (Cond.initialized "java/lang/RuntimeException") ∈ WG := WG_of (i := 17) (by decide +kernel) rfl
theorem wn_java_lang_IndexOutOfBoundsException : (Cond.initialized "java/lang/IndexOutOfBoundsException") ∈ WG := WG_of (i := 18) (by decide +kernel) rfl
theorem wn_java_lang_IllegalArgumentException : (Cond.initialized "java/lang/IllegalArgumentException") ∈ WG := WG_of (i := 19) (by decide +kernel) rfl
theorem wn_RX6 : (Cond.initialized RX6) ∈ WG := WG_of (i := 20) (by decide +kernel) rfl
theorem wn_RX4 : (Cond.initialized RX4) ∈ WG := WG_of (i := 21) (by decide +kernel) rfl
theorem wn_RJ15 : (Cond.initialized RJ15) ∈ WG := WG_of (i := 22) (by decide +kernel) rfl
theorem wn_RJ3 : (Cond.initialized RJ3) ∈ WG := WG_of (i := 23) (by decide +kernel) rfl
theorem wn_RJ6 : (Cond.initialized RJ6) ∈ WG := WG_of (i := 24) (by decide +kernel) rfl
theorem wn_RX3 : (Cond.initialized RX3) ∈ WG := WG_of (i := 25) (by decide +kernel) rfl
theorem wn_RX8 : (Cond.initialized RX8) ∈ WG := WG_of (i := 26) (by decide +kernel) rfl
theorem wn_java_lang_UnsupportedOperationException : (Cond.initialized "java/lang/UnsupportedOperationException") ∈ WG := WG_of (i := 27) (by decide +kernel) rfl
theorem wn_RX0 : (Cond.initialized RX0) ∈ WG := WG_of (i := 28) (by decide +kernel) rfl
theorem wl_RL_8 : (Cond.classLink RL 8 RX10) ∈ WG := WG_of (i := 29) (by decide +kernel) rfl
theorem wz_RX10 : (Cond.instantiable RX10 11) ∈ WG := WG_of (i := 30) (by decide +kernel) rfl
theorem wm_RL_70 : (Cond.methodLink RL 70 yX10_init) ∈ WG := WG_of (i := 31) (by decide +kernel) rfl
theorem wi_X10_init : (Cond.instanceMethod yX10_init) ∈ WG := WG_of (i := 32) (by decide +kernel) rfl
theorem wc_X10_init : (Cond.code yX10_init cX10_init 8 (none : Option Jvm.ClassFile.FieldType)) ∈ WG := WG_of (i := 33) (by decide +kernel) rfl
theorem wm_RX10_1 : (Cond.methodLink RX10 1 objectInit) ∈ WG := WG_of (i := 34) (by decide +kernel) rfl
theorem wi_objectInit : (Cond.instanceMethod objectInit) ∈ WG := WG_of (i := 35) (by decide +kernel) rfl
theorem wc_objectInit : (Cond.code objectInit object_method_1_code 1 (none : Option Jvm.ClassFile.FieldType)) ∈ WG := WG_of (i := 36) (by decide +kernel) rfl
theorem wm_RX10_9 : (Cond.methodLink RX10 9 yX10_nearest) ∈ WG := WG_of (i := 37) (by decide +kernel) rfl
theorem wt_X10_nearest : (Cond.static yX10_nearest) ∈ WG := WG_of (i := 38) (by decide +kernel) rfl
theorem wc_X10_nearest : (Cond.code yX10_nearest cX10_nearest 2 (some FieldType.int)) ∈ WG := WG_of (i := 39) (by decide +kernel) rfl
theorem wm_RX10_253 : (Cond.methodLink RX10 253 yJ9_min_7cf53) ∈ WG := WG_of (i := 40) (by decide +kernel) rfl
theorem wt_J9_min_7cf53 : (Cond.static yJ9_min_7cf53) ∈ WG := WG_of (i := 41) (by decide +kernel) rfl
theorem wc_J9_min_7cf53 : (Cond.code yJ9_min_7cf53 cJ9_min_7cf53 2 (some FieldType.int)) ∈ WG := WG_of (i := 42) (by decide +kernel) rfl
theorem wm_RX10_258 : (Cond.methodLink RX10 258 yJ9_max_7cf53) ∈ WG := WG_of (i := 43) (by decide +kernel) rfl
theorem wt_J9_max_7cf53 : (Cond.static yJ9_max_7cf53) ∈ WG := WG_of (i := 44) (by decide +kernel) rfl
theorem wc_J9_max_7cf53 : (Cond.code yJ9_max_7cf53 cJ9_max_7cf53 2 (some FieldType.int)) ∈ WG := WG_of (i := 45) (by decide +kernel) rfl
theorem wl_RX10_23 : (Cond.classLink RX10 23 RX7) ∈ WG := WG_of (i := 46) (by decide +kernel) rfl
theorem wz_RX7 : (Cond.instantiable RX7 2) ∈ WG := WG_of (i := 47) (by decide +kernel) rfl
theorem wi_X7_init : (Cond.instanceMethod yX7_init) ∈ WG := WG_of (i := 49) (by decide +kernel) rfl
theorem wc_X7_init : (Cond.code yX7_init cX7_init 1 (none : Option Jvm.ClassFile.FieldType)) ∈ WG := WG_of (i := 50) (by decide +kernel) rfl
theorem wm_RX7_3 : (Cond.methodLink RX7 3 objectInit) ∈ WG := WG_of (i := 51) (by decide +kernel) rfl
theorem wl_RX7_9 : (Cond.classLink RX7 9 RJx4a65c) ∈ WG := WG_of (i := 52) (by decide +kernel) rfl
theorem wz_RJx4a65c : (Cond.instantiable RJx4a65c 3) ∈ WG := WG_of (i := 53) (by decide +kernel) rfl
theorem wm_RX7_11 : (Cond.methodLink RX7 11 yJx4a65c_init_da8c8) ∈ WG := WG_of (i := 54) (by decide +kernel) rfl
theorem wi_Jx4a65c_init_da8c8 : (Cond.instanceMethod yJx4a65c_init_da8c8) ∈ WG := WG_of (i := 55) (by decide +kernel) rfl
theorem wc_Jx4a65c_init_da8c8 : (Cond.code yJx4a65c_init_da8c8 cJx4a65c_init_da8c8 1 (none : Option Jvm.ClassFile.FieldType)) ∈ WG := WG_of (i := 56) (by decide +kernel) rfl
theorem wm_RJx4a65c_1 : (Cond.methodLink RJx4a65c 1 yJxc12de_init_da8c8) ∈ WG := WG_of (i := 57) (by decide +kernel) rfl
theorem wi_Jxc12de_init_da8c8 : (Cond.instanceMethod yJxc12de_init_da8c8) ∈ WG := WG_of (i := 58) (by decide +kernel) rfl
theorem wc_Jxc12de_init_da8c8 : (Cond.code yJxc12de_init_da8c8 cJxc12de_init_da8c8 1 (none : Option Jvm.ClassFile.FieldType)) ∈ WG := WG_of (i := 59) (by decide +kernel) rfl
theorem wm_RJxc12de_1 : (Cond.methodLink RJxc12de 1 yJxa1e45_init_da8c8) ∈ WG := WG_of (i := 60) (by decide +kernel) rfl
theorem wi_Jxa1e45_init_da8c8 : (Cond.instanceMethod yJxa1e45_init_da8c8) ∈ WG := WG_of (i := 61) (by decide +kernel) rfl
theorem wc_Jxa1e45_init_da8c8 : (Cond.code yJxa1e45_init_da8c8 cJxa1e45_init_da8c8 1 (none : Option Jvm.ClassFile.FieldType)) ∈ WG := WG_of (i := 62) (by decide +kernel) rfl
theorem wm_RJxa1e45_1 : (Cond.methodLink RJxa1e45 1 objectInit) ∈ WG := WG_of (i := 63) (by decide +kernel) rfl
theorem wf_RJx4a65c_39 : (Cond.fieldLink RJx4a65c 39 "java/util/ArrayList" "DEFAULTCAPACITY_EMPTY_ELEMENTDATA" "[Ljava/lang/Object;") ∈ WG := WG_of (i := 64) (by decide +kernel) rfl
theorem wf_RJx4a65c_9 : (Cond.fieldLink RJx4a65c 9 "java/util/ArrayList" "elementData" "[Ljava/lang/Object;") ∈ WG := WG_of (i := 66) (by decide +kernel) rfl
theorem wf_RJx4a65c_48 : (Cond.fieldLink RJx4a65c 48 "java/util/ArrayList" "size" "I") ∈ WG := WG_of (i := 67) (by decide +kernel) rfl
theorem wf_RJxc12de_7 : (Cond.fieldLink RJxc12de 7 "java/util/AbstractList" "modCount" "I") ∈ WG := WG_of (i := 68) (by decide +kernel) rfl
theorem wf_RJx4a65c_63 : (Cond.fieldLink RJx4a65c 63 "java/util/ArrayList" "modCount" "I") ∈ WG := WG_of (i := 69) (by decide +kernel) rfl
theorem wo_70 : (Cond.sameField "java/util/ArrayList" "java/util/AbstractList" "modCount" "I") ∈ WG := WG_of (i := 70) (by decide +kernel) rfl
theorem wf_RX7_12 : (Cond.fieldLink RX7 12 "OneTrip$Row" "letters" "Ljava/util/ArrayList;") ∈ WG := WG_of (i := 78) (by decide +kernel) rfl
theorem wf_RX7_31 : (Cond.fieldLink RX7 31 "OneTrip$Row" "overflowed" "I") ∈ WG := WG_of (i := 79) (by decide +kernel) rfl
theorem wl_RX10_30 : (Cond.classLink RX10 30 RX2) ∈ WG := WG_of (i := 86) (by decide +kernel) rfl
theorem wz_RX2 : (Cond.instantiable RX2 6) ∈ WG := WG_of (i := 88) (by decide +kernel) rfl
theorem wi_X2_init : (Cond.instanceMethod yX2_init) ∈ WG := WG_of (i := 90) (by decide +kernel) rfl
theorem wc_X2_init : (Cond.code yX2_init cX2_init 1 (none : Option Jvm.ClassFile.FieldType)) ∈ WG := WG_of (i := 91) (by decide +kernel) rfl
theorem wm_RX2_1 : (Cond.methodLink RX2 1 objectInit) ∈ WG := WG_of (i := 92) (by decide +kernel) rfl
theorem wf_RX2_7 : (Cond.fieldLink RX2 7 "OneTrip$Client" "latest" "LOneTrip$Operation;") ∈ WG := WG_of (i := 94) (by decide +kernel) rfl
theorem wf_RX2_26 : (Cond.fieldLink RX2 26 "OneTrip$Client" "accepts" "I") ∈ WG := WG_of (i := 96) (by decide +kernel) rfl
theorem wf_RX2_29 : (Cond.fieldLink RX2 29 "OneTrip$Client" "answered" "Z") ∈ WG := WG_of (i := 98) (by decide +kernel) rfl
theorem wf_RX2_33 : (Cond.fieldLink RX2 33 "OneTrip$Client" "answer" "I") ∈ WG := WG_of (i := 100) (by decide +kernel) rfl
theorem wl_RX10_37 : (Cond.classLink RX10 37 RX1) ∈ WG := WG_of (i := 116) (by decide +kernel) rfl
theorem wl_RX10_43 : (Cond.classLink RX10 43 RX9) ∈ WG := WG_of (i := 118) (by decide +kernel) rfl
theorem wz_RX1 : (Cond.instantiable RX1 3) ∈ WG := WG_of (i := 120) (by decide +kernel) rfl
theorem wi_X1_init : (Cond.instanceMethod yX1_init) ∈ WG := WG_of (i := 122) (by decide +kernel) rfl
theorem wc_X1_init : (Cond.code yX1_init cX1_init 2 (none : Option Jvm.ClassFile.FieldType)) ∈ WG := WG_of (i := 123) (by decide +kernel) rfl
theorem wm_RX1_1 : (Cond.methodLink RX1 1 objectInit) ∈ WG := WG_of (i := 124) (by decide +kernel) rfl
theorem wf_RX1_7 : (Cond.fieldLink RX1 7 "OneTrip$Backup" "id" "I") ∈ WG := WG_of (i := 125) (by decide +kernel) rfl
theorem wf_RX1_13 : (Cond.fieldLink RX1 13 "OneTrip$Backup" "epoch" "I") ∈ WG := WG_of (i := 127) (by decide +kernel) rfl
theorem wf_RX1_16 : (Cond.fieldLink RX1 16 "OneTrip$Backup" "has" "I") ∈ WG := WG_of (i := 129) (by decide +kernel) rfl
theorem wz_RX9 : (Cond.instantiable RX9 6) ∈ WG := WG_of (i := 139) (by decide +kernel) rfl
theorem wi_X9_init : (Cond.instanceMethod yX9_init) ∈ WG := WG_of (i := 141) (by decide +kernel) rfl
theorem wc_X9_init : (Cond.code yX9_init cX9_init 4 (none : Option Jvm.ClassFile.FieldType)) ∈ WG := WG_of (i := 142) (by decide +kernel) rfl
theorem wm_RX9_3 : (Cond.methodLink RX9 3 objectInit) ∈ WG := WG_of (i := 143) (by decide +kernel) rfl
theorem wm_RX9_21 : (Cond.methodLink RX9 21 yJ9_max_7cf53) ∈ WG := WG_of (i := 144) (by decide +kernel) rfl
theorem wl_RX9_27 : (Cond.classLink RX9 27 RX6) ∈ WG := WG_of (i := 145) (by decide +kernel) rfl
theorem wf_RX9_9 : (Cond.fieldLink RX9 9 "OneTrip$Witness" "id" "I") ∈ WG := WG_of (i := 147) (by decide +kernel) rfl
theorem wf_RX9_15 : (Cond.fieldLink RX9 15 "OneTrip$Witness" "sets" "I") ∈ WG := WG_of (i := 149) (by decide +kernel) rfl
theorem wf_RX9_18 : (Cond.fieldLink RX9 18 "OneTrip$Witness" "ways" "I") ∈ WG := WG_of (i := 150) (by decide +kernel) rfl
theorem wf_RX9_29 : (Cond.fieldLink RX9 29 "OneTrip$Witness" "places" "[LOneTrip$Operation;") ∈ WG := WG_of (i := 151) (by decide +kernel) rfl
theorem wf_RX9_33 : (Cond.fieldLink RX9 33 "OneTrip$Witness" "epoch" "I") ∈ WG := WG_of (i := 153) (by decide +kernel) rfl
theorem wf_RX9_36 : (Cond.fieldLink RX9 36 "OneTrip$Witness" "frozen" "Z") ∈ WG := WG_of (i := 155) (by decide +kernel) rfl
theorem wl_RX10_55 : (Cond.classLink RX10 55 RJx4a65c) ∈ WG := WG_of (i := 170) (by decide +kernel) rfl
theorem wm_RX10_57 : (Cond.methodLink RX10 57 yJx4a65c_init_da8c8) ∈ WG := WG_of (i := 171) (by decide +kernel) rfl
theorem wl_RX10_62 : (Cond.classLink RX10 62 RX5) ∈ WG := WG_of (i := 172) (by decide +kernel) rfl
theorem wz_RX5 : (Cond.instantiable RX5 12) ∈ WG := WG_of (i := 173) (by decide +kernel) rfl
theorem wi_X5_init : (Cond.instanceMethod yX5_init) ∈ WG := WG_of (i := 175) (by decide +kernel) rfl
theorem wc_X5_init : (Cond.code yX5_init cX5_init 5 (none : Option Jvm.ClassFile.FieldType)) ∈ WG := WG_of (i := 176) (by decide +kernel) rfl
theorem wm_RX5_3 : (Cond.methodLink RX5 3 objectInit) ∈ WG := WG_of (i := 177) (by decide +kernel) rfl
theorem wl_RX5_22 : (Cond.classLink RX5 22 RJx4a65c) ∈ WG := WG_of (i := 178) (by decide +kernel) rfl
theorem wm_RX5_24 : (Cond.methodLink RX5 24 yJx4a65c_init_da8c8) ∈ WG := WG_of (i := 179) (by decide +kernel) rfl
theorem wm_RX5_36 : (Cond.methodLink RX5 36 yJ9_max_7cf53) ∈ WG := WG_of (i := 180) (by decide +kernel) rfl
theorem wm_RX5_45 : (Cond.methodLink RX5 45 yJ7_fill_53178) ∈ WG := WG_of (i := 181) (by decide +kernel) rfl
theorem wt_J7_fill_53178 : (Cond.static yJ7_fill_53178) ∈ WG := WG_of (i := 182) (by decide +kernel) rfl
theorem wc_J7_fill_53178 : (Cond.code yJ7_fill_53178 cJ7_fill_53178 4 (none : Option Jvm.ClassFile.FieldType)) ∈ WG := WG_of (i := 183) (by decide +kernel) rfl
theorem wf_RX5_9 : (Cond.fieldLink RX5 9 "OneTrip$Master" "epoch" "I") ∈ WG := WG_of (i := 184) (by decide +kernel) rfl
theorem wf_RX5_15 : (Cond.fieldLink RX5 15 "OneTrip$Master" "batch" "I") ∈ WG := WG_of (i := 185) (by decide +kernel) rfl
theorem wf_RX5_18 : (Cond.fieldLink RX5 18 "OneTrip$Master" "row" "LOneTrip$Row;") ∈ WG := WG_of (i := 186) (by decide +kernel) rfl
theorem wf_RX5_25 : (Cond.fieldLink RX5 25 "OneTrip$Master" "log" "Ljava/util/ArrayList;") ∈ WG := WG_of (i := 187) (by decide +kernel) rfl
theorem wf_RX5_29 : (Cond.fieldLink RX5 29 "OneTrip$Master" "gets" "Ljava/util/ArrayList;") ∈ WG := WG_of (i := 189) (by decide +kernel) rfl
theorem wf_RX5_32 : (Cond.fieldLink RX5 32 "OneTrip$Master" "values" "[I") ∈ WG := WG_of (i := 191) (by decide +kernel) rfl
theorem wf_RX5_42 : (Cond.fieldLink RX5 42 "OneTrip$Master" "told" "[I") ∈ WG := WG_of (i := 192) (by decide +kernel) rfl
theorem wf_RX5_51 : (Cond.fieldLink RX5 51 "OneTrip$Master" "lives" "Z") ∈ WG := WG_of (i := 193) (by decide +kernel) rfl
theorem wf_RX5_176 : (Cond.fieldLink RX5 176 "OneTrip$Master" "settled" "Z") ∈ WG := WG_of (i := 196) (by decide +kernel) rfl
theorem wf_RX5_179 : (Cond.fieldLink RX5 179 "OneTrip$Master" "began" "I") ∈ WG := WG_of (i := 198) (by decide +kernel) rfl
theorem wf_RX5_122 : (Cond.fieldLink RX5 122 "OneTrip$Master" "synced" "I") ∈ WG := WG_of (i := 199) (by decide +kernel) rfl
theorem wf_RX5_157 : (Cond.fieldLink RX5 157 "OneTrip$Master" "syncs" "I") ∈ WG := WG_of (i := 201) (by decide +kernel) rfl
theorem wo_227 : (Cond.arrayClass FieldType.int) ∈ WG := WG_of (i := 227) (by decide +kernel) rfl
theorem wm_RX10_67 : (Cond.methodLink RX10 67 yJx4a65c_add_9ea2d) ∈ WG := WG_of (i := 228) (by decide +kernel) rfl
theorem wi_Jx4a65c_add_9ea2d : (Cond.instanceMethod yJx4a65c_add_9ea2d) ∈ WG := WG_of (i := 229) (by decide +kernel) rfl
theorem we_Jx4a65c_add_9ea2d : (Cond.selects RJx4a65c yJx4a65c_add_9ea2d yJx4a65c_add_9ea2d) ∈ WG := WG_of (i := 230) (by decide +kernel) rfl
theorem wc_Jx4a65c_add_9ea2d : (Cond.code yJx4a65c_add_9ea2d cJx4a65c_add_9ea2d 2 (some FieldType.boolean)) ∈ WG := WG_of (i := 231) (by decide +kernel) rfl
theorem wm_RJx4a65c_131 : (Cond.methodLink RJx4a65c 131 yJx4a65c_add_72be8) ∈ WG := WG_of (i := 232) (by decide +kernel) rfl
theorem wi_Jx4a65c_add_72be8 : (Cond.instanceMethod yJx4a65c_add_72be8) ∈ WG := WG_of (i := 234) (by decide +kernel) rfl
theorem wc_Jx4a65c_add_72be8 : (Cond.code yJx4a65c_add_72be8 cJx4a65c_add_72be8 4 (none : Option Jvm.ClassFile.FieldType)) ∈ WG := WG_of (i := 235) (by decide +kernel) rfl
theorem wm_RJx4a65c_129 : (Cond.methodLink RJx4a65c 129 yJx4a65c_grow_d5877) ∈ WG := WG_of (i := 236) (by decide +kernel) rfl
theorem wi_Jx4a65c_grow_d5877 : (Cond.instanceMethod yJx4a65c_grow_d5877) ∈ WG := WG_of (i := 238) (by decide +kernel) rfl
theorem wc_Jx4a65c_grow_d5877 : (Cond.code yJx4a65c_grow_d5877 cJx4a65c_grow_d5877 1 (some (FieldType.array (FieldType.object "java/lang/Object")))) ∈ WG := WG_of (i := 239) (by decide +kernel) rfl
theorem wm_RJx4a65c_69 : (Cond.methodLink RJx4a65c 69 yJx4a65c_grow_92f84) ∈ WG := WG_of (i := 240) (by decide +kernel) rfl
theorem wi_Jx4a65c_grow_92f84 : (Cond.instanceMethod yJx4a65c_grow_92f84) ∈ WG := WG_of (i := 242) (by decide +kernel) rfl
theorem wc_Jx4a65c_grow_92f84 : (Cond.code yJx4a65c_grow_92f84 cJx4a65c_grow_92f84 4 (some (FieldType.array (FieldType.object "java/lang/Object")))) ∈ WG := WG_of (i := 243) (by decide +kernel) rfl
theorem wm_RJx4a65c_73 : (Cond.methodLink RJx4a65c 73 yJ8_newLength_cabcc) ∈ WG := WG_of (i := 244) (by decide +kernel) rfl
theorem wt_J8_newLength_cabcc : (Cond.static yJ8_newLength_cabcc) ∈ WG := WG_of (i := 245) (by decide +kernel) rfl
theorem wc_J8_newLength_cabcc : (Cond.code yJ8_newLength_cabcc cJ8_newLength_cabcc 4 (some FieldType.int)) ∈ WG := WG_of (i := 246) (by decide +kernel) rfl
theorem wm_RJ8_194 : (Cond.methodLink RJ8 194 yJ9_max_7cf53) ∈ WG := WG_of (i := 247) (by decide +kernel) rfl
theorem wo_248 : (Cond.constant "jdk/internal/util/ArraysSupport" 200 (2147483639 : Int32)) ∈ WG := WG_of (i := 248) (by decide +kernel) rfl
theorem wm_RJ8_201 : (Cond.methodLink RJ8 201 yJ8_hugeLength_7cf53) ∈ WG := WG_of (i := 249) (by decide +kernel) rfl
theorem wt_J8_hugeLength_7cf53 : (Cond.static yJ8_hugeLength_7cf53) ∈ WG := WG_of (i := 250) (by decide +kernel) rfl
theorem wc_J8_hugeLength_7cf53 : (Cond.code yJ8_hugeLength_7cf53 cJ8_hugeLength_7cf53 3 (some FieldType.int)) ∈ WG := WG_of (i := 251) (by decide +kernel) rfl
theorem wm_RJx4a65c_66 : (Cond.methodLink RJx4a65c 66 yJ7_copyOf_1904c) ∈ WG := WG_of (i := 252) (by decide +kernel) rfl
theorem wt_J7_copyOf_1904c : (Cond.static yJ7_copyOf_1904c) ∈ WG := WG_of (i := 253) (by decide +kernel) rfl
theorem wc_J7_copyOf_1904c : (Cond.code yJ7_copyOf_1904c cJ7_copyOf_1904c 2 (some (FieldType.array (FieldType.object "java/lang/Object")))) ∈ WG := WG_of (i := 254) (by decide +kernel) rfl
theorem wm_RJ7_86 : (Cond.methodLink RJ7 86 ⟨"java/lang/Object", "getClass", "()Ljava/lang/Class;"⟩) ∈ WG := WG_of (i := 255) (by decide +kernel) rfl
theorem wi_Object_getClass : (Cond.instanceMethod ⟨"java/lang/Object", "getClass", "()Ljava/lang/Class;"⟩) ∈ WG := WG_of (i := 256) (by decide +kernel) rfl
theorem we_RX10_Object_getClass : (Cond.selects RX10 ⟨"java/lang/Object", "getClass", "()Ljava/lang/Class;"⟩ ⟨"java/lang/Object", "getClass", "()Ljava/lang/Class;"⟩) ∈ WG := WG_of (i := 258) (by decide +kernel) rfl
theorem we_RX1_Object_getClass : (Cond.selects RX1 ⟨"java/lang/Object", "getClass", "()Ljava/lang/Class;"⟩ ⟨"java/lang/Object", "getClass", "()Ljava/lang/Class;"⟩) ∈ WG := WG_of (i := 259) (by decide +kernel) rfl
theorem we_RX2_Object_getClass : (Cond.selects RX2 ⟨"java/lang/Object", "getClass", "()Ljava/lang/Class;"⟩ ⟨"java/lang/Object", "getClass", "()Ljava/lang/Class;"⟩) ∈ WG := WG_of (i := 260) (by decide +kernel) rfl
theorem we_RX3_Object_getClass : (Cond.selects RX3 ⟨"java/lang/Object", "getClass", "()Ljava/lang/Class;"⟩ ⟨"java/lang/Object", "getClass", "()Ljava/lang/Class;"⟩) ∈ WG := WG_of (i := 261) (by decide +kernel) rfl
theorem we_RX4_Object_getClass : (Cond.selects RX4 ⟨"java/lang/Object", "getClass", "()Ljava/lang/Class;"⟩ ⟨"java/lang/Object", "getClass", "()Ljava/lang/Class;"⟩) ∈ WG := WG_of (i := 262) (by decide +kernel) rfl
theorem we_RX5_Object_getClass : (Cond.selects RX5 ⟨"java/lang/Object", "getClass", "()Ljava/lang/Class;"⟩ ⟨"java/lang/Object", "getClass", "()Ljava/lang/Class;"⟩) ∈ WG := WG_of (i := 263) (by decide +kernel) rfl
theorem we_RX6_Object_getClass : (Cond.selects RX6 ⟨"java/lang/Object", "getClass", "()Ljava/lang/Class;"⟩ ⟨"java/lang/Object", "getClass", "()Ljava/lang/Class;"⟩) ∈ WG := WG_of (i := 264) (by decide +kernel) rfl
theorem we_RX7_Object_getClass : (Cond.selects RX7 ⟨"java/lang/Object", "getClass", "()Ljava/lang/Class;"⟩ ⟨"java/lang/Object", "getClass", "()Ljava/lang/Class;"⟩) ∈ WG := WG_of (i := 265) (by decide +kernel) rfl
theorem we_RX8_Object_getClass : (Cond.selects RX8 ⟨"java/lang/Object", "getClass", "()Ljava/lang/Class;"⟩ ⟨"java/lang/Object", "getClass", "()Ljava/lang/Class;"⟩) ∈ WG := WG_of (i := 266) (by decide +kernel) rfl
theorem we_RX9_Object_getClass : (Cond.selects RX9 ⟨"java/lang/Object", "getClass", "()Ljava/lang/Class;"⟩ ⟨"java/lang/Object", "getClass", "()Ljava/lang/Class;"⟩) ∈ WG := WG_of (i := 267) (by decide +kernel) rfl
theorem we_RX11_Object_getClass : (Cond.selects RX11 ⟨"java/lang/Object", "getClass", "()Ljava/lang/Class;"⟩ ⟨"java/lang/Object", "getClass", "()Ljava/lang/Class;"⟩) ∈ WG := WG_of (i := 268) (by decide +kernel) rfl
theorem we_java_lang_IllegalArgumentException_Object_getClass : (Cond.selects "java/lang/IllegalArgumentException" ⟨"java/lang/Object", "getClass", "()Ljava/lang/Class;"⟩ ⟨"java/lang/Object", "getClass", "()Ljava/lang/Class;"⟩) ∈ WG := WG_of (i := 269) (by decide +kernel) rfl
theorem we_java_lang_IndexOutOfBoundsException_Object_getClass : (Cond.selects "java/lang/IndexOutOfBoundsException" ⟨"java/lang/Object", "getClass", "()Ljava/lang/Class;"⟩ ⟨"java/lang/Object", "getClass", "()Ljava/lang/Class;"⟩) ∈ WG := WG_of (i := 270) (by decide +kernel) rfl
theorem we_java_lang_UnsupportedOperationException_Object_getClass : (Cond.selects "java/lang/UnsupportedOperationException" ⟨"java/lang/Object", "getClass", "()Ljava/lang/Class;"⟩ ⟨"java/lang/Object", "getClass", "()Ljava/lang/Class;"⟩) ∈ WG := WG_of (i := 271) (by decide +kernel) rfl
theorem we_RJx4a65c_Object_getClass : (Cond.selects RJx4a65c ⟨"java/lang/Object", "getClass", "()Ljava/lang/Class;"⟩ ⟨"java/lang/Object", "getClass", "()Ljava/lang/Class;"⟩) ∈ WG := WG_of (i := 272) (by decide +kernel) rfl
theorem wv_Object_getClass : (Cond.native ⟨"java/lang/Object", "getClass", "()Ljava/lang/Class;"⟩) ∈ WG := WG_of (i := 273) (by decide +kernel) rfl
theorem wm_RJ7_300 : (Cond.methodLink RJ7 300 yJ7_copyOf_6403c) ∈ WG := WG_of (i := 274) (by decide +kernel) rfl
theorem wt_J7_copyOf_6403c : (Cond.static yJ7_copyOf_6403c) ∈ WG := WG_of (i := 275) (by decide +kernel) rfl
theorem wc_J7_copyOf_6403c : (Cond.code yJ7_copyOf_6403c cJ7_copyOf_6403c 4 (some (FieldType.array (FieldType.object "java/lang/Object")))) ∈ WG := WG_of (i := 276) (by decide +kernel) rfl
theorem wl_RJ7_110 : (Cond.classLink RJ7 110 "[Ljava/lang/Object;") ∈ WG := WG_of (i := 277) (by decide +kernel) rfl
theorem wl_RJ7_2 : (Cond.classLink RJ7 2 "java/lang/Object") ∈ WG := WG_of (i := 279) (by decide +kernel) rfl
theorem wm_RJ7_304 : (Cond.methodLink RJ7 304 yJ9_min_7cf53) ∈ WG := WG_of (i := 280) (by decide +kernel) rfl
theorem wm_RJ7_150 : (Cond.methodLink RJ7 150 ⟨"java/lang/System", "arraycopy", "(Ljava/lang/Object;ILjava/lang/Object;II)V"⟩) ∈ WG := WG_of (i := 281) (by decide +kernel) rfl
theorem wt_System_arraycopy : (Cond.static ⟨"java/lang/System", "arraycopy", "(Ljava/lang/Object;ILjava/lang/Object;II)V"⟩) ∈ WG := WG_of (i := 282) (by decide +kernel) rfl
theorem wv_System_arraycopy : (Cond.native ⟨"java/lang/System", "arraycopy", "(Ljava/lang/Object;ILjava/lang/Object;II)V"⟩) ∈ WG := WG_of (i := 283) (by decide +kernel) rfl
theorem wm_RJx4a65c_79 : (Cond.methodLink RJx4a65c 79 yJ9_max_7cf53) ∈ WG := WG_of (i := 284) (by decide +kernel) rfl
theorem wl_RJx4a65c_7 : (Cond.classLink RJx4a65c 7 "java/lang/Object") ∈ WG := WG_of (i := 285) (by decide +kernel) rfl
theorem wf_RX10_13 : (Cond.fieldLink RX10 13 "OneTrip" "sets" "I") ∈ WG := WG_of (i := 286) (by decide +kernel) rfl
theorem wf_RX10_17 : (Cond.fieldLink RX10 17 "OneTrip" "ways" "I") ∈ WG := WG_of (i := 287) (by decide +kernel) rfl
theorem wf_RX10_20 : (Cond.fieldLink RX10 20 "OneTrip" "batch" "I") ∈ WG := WG_of (i := 288) (by decide +kernel) rfl
theorem wf_RX10_26 : (Cond.fieldLink RX10 26 "OneTrip" "row" "LOneTrip$Row;") ∈ WG := WG_of (i := 289) (by decide +kernel) rfl
theorem wf_RX10_32 : (Cond.fieldLink RX10 32 "OneTrip" "clients" "[LOneTrip$Client;") ∈ WG := WG_of (i := 290) (by decide +kernel) rfl
theorem wf_RX10_39 : (Cond.fieldLink RX10 39 "OneTrip" "backups" "[LOneTrip$Backup;") ∈ WG := WG_of (i := 291) (by decide +kernel) rfl
theorem wf_RX10_45 : (Cond.fieldLink RX10 45 "OneTrip" "witnesses" "[LOneTrip$Witness;") ∈ WG := WG_of (i := 292) (by decide +kernel) rfl
theorem wf_RX10_58 : (Cond.fieldLink RX10 58 "OneTrip" "masters" "Ljava/util/ArrayList;") ∈ WG := WG_of (i := 293) (by decide +kernel) rfl
theorem wf_RX10_71 : (Cond.fieldLink RX10 71 "OneTrip" "operations" "Ljava/util/ArrayList;") ∈ WG := WG_of (i := 294) (by decide +kernel) rfl
theorem wf_RX10_247 : (Cond.fieldLink RX10 247 "OneTrip" "finished" "I") ∈ WG := WG_of (i := 295) (by decide +kernel) rfl
theorem wf_RX10_97 : (Cond.fieldLink RX10 97 "OneTrip" "moment" "I") ∈ WG := WG_of (i := 296) (by decide +kernel) rfl
theorem wm_RL_128 : (Cond.methodLink RL 128 yX10_audit) ∈ WG := WG_of (i := 320) (by decide +kernel) rfl
theorem wi_X10_audit : (Cond.instanceMethod yX10_audit) ∈ WG := WG_of (i := 321) (by decide +kernel) rfl
theorem we_X10_audit : (Cond.selects RX10 yX10_audit yX10_audit) ∈ WG := WG_of (i := 322) (by decide +kernel) rfl
theorem wc_X10_audit : (Cond.code yX10_audit cX10_audit 2 (some FieldType.int)) ∈ WG := WG_of (i := 323) (by decide +kernel) rfl
theorem wm_RX10_85 : (Cond.methodLink RX10 85 yJx4a65c_size_8abf5) ∈ WG := WG_of (i := 324) (by decide +kernel) rfl
theorem wi_Jx4a65c_size_8abf5 : (Cond.instanceMethod yJx4a65c_size_8abf5) ∈ WG := WG_of (i := 325) (by decide +kernel) rfl
theorem we_Jx4a65c_size_8abf5 : (Cond.selects RJx4a65c yJx4a65c_size_8abf5 yJx4a65c_size_8abf5) ∈ WG := WG_of (i := 326) (by decide +kernel) rfl
theorem wc_Jx4a65c_size_8abf5 : (Cond.code yJx4a65c_size_8abf5 cJx4a65c_size_8abf5 1 (some FieldType.int)) ∈ WG := WG_of (i := 327) (by decide +kernel) rfl
theorem wm_RX10_174 : (Cond.methodLink RX10 174 yX10_masterOf) ∈ WG := WG_of (i := 328) (by decide +kernel) rfl
theorem wi_X10_masterOf : (Cond.instanceMethod yX10_masterOf) ∈ WG := WG_of (i := 330) (by decide +kernel) rfl
theorem wc_X10_masterOf : (Cond.code yX10_masterOf cX10_masterOf 2 (some (FieldType.object "OneTrip$Master"))) ∈ WG := WG_of (i := 331) (by decide +kernel) rfl
theorem wm_RX10_150 : (Cond.methodLink RX10 150 yJx4a65c_get_915e3) ∈ WG := WG_of (i := 332) (by decide +kernel) rfl
theorem wi_Jx4a65c_get_915e3 : (Cond.instanceMethod yJx4a65c_get_915e3) ∈ WG := WG_of (i := 333) (by decide +kernel) rfl
theorem we_Jx4a65c_get_915e3 : (Cond.selects RJx4a65c yJx4a65c_get_915e3 yJx4a65c_get_915e3) ∈ WG := WG_of (i := 334) (by decide +kernel) rfl
theorem wc_Jx4a65c_get_915e3 : (Cond.code yJx4a65c_get_915e3 cJx4a65c_get_915e3 2 (some (FieldType.object "java/lang/Object"))) ∈ WG := WG_of (i := 335) (by decide +kernel) rfl
theorem wm_RJx4a65c_118 : (Cond.methodLink RJx4a65c 118 yJ15_checkIndex_7cf53) ∈ WG := WG_of (i := 336) (by decide +kernel) rfl
theorem wt_J15_checkIndex_7cf53 : (Cond.static yJ15_checkIndex_7cf53) ∈ WG := WG_of (i := 337) (by decide +kernel) rfl
theorem wc_J15_checkIndex_7cf53 : (Cond.code yJ15_checkIndex_7cf53 cJ15_checkIndex_7cf53 2 (some FieldType.int)) ∈ WG := WG_of (i := 338) (by decide +kernel) rfl
theorem wm_RJ15_105 : (Cond.methodLink RJ15 105 yJ3_checkIndex_8e157) ∈ WG := WG_of (i := 339) (by decide +kernel) rfl
theorem wt_J3_checkIndex_8e157 : (Cond.static yJ3_checkIndex_8e157) ∈ WG := WG_of (i := 340) (by decide +kernel) rfl
theorem wc_J3_checkIndex_8e157 : (Cond.code yJ3_checkIndex_8e157 cJ3_checkIndex_8e157 3 (some FieldType.int)) ∈ WG := WG_of (i := 341) (by decide +kernel) rfl
theorem wm_RJx4a65c_123 : (Cond.methodLink RJx4a65c 123 yJx4a65c_elementData_915e3) ∈ WG := WG_of (i := 342) (by decide +kernel) rfl
theorem wi_Jx4a65c_elementData_915e3 : (Cond.instanceMethod yJx4a65c_elementData_915e3) ∈ WG := WG_of (i := 343) (by decide +kernel) rfl
theorem we_Jx4a65c_elementData_915e3 : (Cond.selects RJx4a65c yJx4a65c_elementData_915e3 yJx4a65c_elementData_915e3) ∈ WG := WG_of (i := 344) (by decide +kernel) rfl
theorem wc_Jx4a65c_elementData_915e3 : (Cond.code yJx4a65c_elementData_915e3 cJx4a65c_elementData_915e3 2 (some (FieldType.object "java/lang/Object"))) ∈ WG := WG_of (i := 345) (by decide +kernel) rfl
theorem wt_X0_passes : (Cond.static yX0_passes) ∈ WG := WG_of (i := 347) (by decide +kernel) rfl
theorem wc_X0_passes : (Cond.code yX0_passes cX0_passes 4 (some FieldType.boolean)) ∈ WG := WG_of (i := 348) (by decide +kernel) rfl
theorem wm_RX0_7 : (Cond.methodLink RX0 7 yX0_isInOrder) ∈ WG := WG_of (i := 349) (by decide +kernel) rfl
theorem wt_X0_isInOrder : (Cond.static yX0_isInOrder) ∈ WG := WG_of (i := 350) (by decide +kernel) rfl
theorem wc_X0_isInOrder : (Cond.code yX0_isInOrder cX0_isInOrder 5 (some FieldType.boolean)) ∈ WG := WG_of (i := 351) (by decide +kernel) rfl
theorem wm_RX0_13 : (Cond.methodLink RX0 13 yJx4a65c_size_8abf5) ∈ WG := WG_of (i := 352) (by decide +kernel) rfl
theorem wm_RX0_19 : (Cond.methodLink RX0 19 yJx4a65c_get_915e3) ∈ WG := WG_of (i := 353) (by decide +kernel) rfl
theorem wl_RX0_39 : (Cond.classLink RX0 39 RX3) ∈ WG := WG_of (i := 354) (by decide +kernel) rfl
theorem wi_X6_isDoneBefore : (Cond.instanceMethod yX6_isDoneBefore) ∈ WG := WG_of (i := 357) (by decide +kernel) rfl
theorem wz_RX6 : (Cond.instantiable RX6 8) ∈ WG := WG_of (i := 358) (by decide +kernel) rfl
theorem wc_X6_isDoneBefore : (Cond.code yX6_isDoneBefore cX6_isDoneBefore 2 (some FieldType.boolean)) ∈ WG := WG_of (i := 359) (by decide +kernel) rfl
theorem wl_RX0_23 : (Cond.classLink RX0 23 RX6) ∈ WG := WG_of (i := 360) (by decide +kernel) rfl
theorem wi_X6_isDone : (Cond.instanceMethod yX6_isDone) ∈ WG := WG_of (i := 363) (by decide +kernel) rfl
theorem wc_X6_isDone : (Cond.code yX6_isDone cX6_isDone 1 (some FieldType.boolean)) ∈ WG := WG_of (i := 364) (by decide +kernel) rfl
theorem wi_X6_isUpdate : (Cond.instanceMethod yX6_isUpdate) ∈ WG := WG_of (i := 367) (by decide +kernel) rfl
theorem wc_X6_isUpdate : (Cond.code yX6_isUpdate cX6_isUpdate 1 (some FieldType.boolean)) ∈ WG := WG_of (i := 368) (by decide +kernel) rfl
theorem wm_RX0_32 : (Cond.methodLink RX0 32 yX0_standsOnce) ∈ WG := WG_of (i := 369) (by decide +kernel) rfl
theorem wt_X0_standsOnce : (Cond.static yX0_standsOnce) ∈ WG := WG_of (i := 370) (by decide +kernel) rfl
theorem wc_X0_standsOnce : (Cond.code yX0_standsOnce cX0_standsOnce 5 (some FieldType.boolean)) ∈ WG := WG_of (i := 371) (by decide +kernel) rfl
theorem wm_RX0_36 : (Cond.methodLink RX0 36 yX0_fits) ∈ WG := WG_of (i := 372) (by decide +kernel) rfl
theorem wt_X0_fits : (Cond.static yX0_fits) ∈ WG := WG_of (i := 373) (by decide +kernel) rfl
theorem wc_X0_fits : (Cond.code yX0_fits cX0_fits 6 (some FieldType.boolean)) ∈ WG := WG_of (i := 374) (by decide +kernel) rfl
theorem wm_RX0_59 : (Cond.methodLink RX0 59 yJ9_max_7cf53) ∈ WG := WG_of (i := 375) (by decide +kernel) rfl
theorem wi_X6_valueAfter : (Cond.instanceMethod yX6_valueAfter) ∈ WG := WG_of (i := 378) (by decide +kernel) rfl
theorem wc_X6_valueAfter : (Cond.code yX6_valueAfter cX6_valueAfter 2 (some FieldType.int)) ∈ WG := WG_of (i := 379) (by decide +kernel) rfl
theorem wm_RX10_204 : (Cond.methodLink RX10 204 yX10_asBit) ∈ WG := WG_of (i := 380) (by decide +kernel) rfl
theorem wt_X10_asBit : (Cond.static yX10_asBit) ∈ WG := WG_of (i := 381) (by decide +kernel) rfl
theorem wc_X10_asBit : (Cond.code yX10_asBit cX10_asBit 1 (some FieldType.int)) ∈ WG := WG_of (i := 382) (by decide +kernel) rfl
theorem wm_RL_132 : (Cond.methodLink RL 132 yX10_count) ∈ WG := WG_of (i := 383) (by decide +kernel) rfl
theorem wi_X10_count : (Cond.instanceMethod yX10_count) ∈ WG := WG_of (i := 384) (by decide +kernel) rfl
theorem we_X10_count : (Cond.selects RX10 yX10_count yX10_count) ∈ WG := WG_of (i := 385) (by decide +kernel) rfl
theorem wc_X10_count : (Cond.code yX10_count cX10_count 2 (some FieldType.int)) ∈ WG := WG_of (i := 386) (by decide +kernel) rfl
theorem wi_X7_size : (Cond.instanceMethod yX7_size) ∈ WG := WG_of (i := 389) (by decide +kernel) rfl
theorem wc_X7_size : (Cond.code yX7_size cX7_size 1 (some FieldType.int)) ∈ WG := WG_of (i := 390) (by decide +kernel) rfl
theorem wm_RX7_18 : (Cond.methodLink RX7 18 yJx4a65c_size_8abf5) ∈ WG := WG_of (i := 391) (by decide +kernel) rfl
theorem wm_RL_64 : (Cond.methodLink RL 64 yL_cell) ∈ WG := WG_of (i := 392) (by decide +kernel) rfl
theorem wt_L_cell : (Cond.static yL_cell) ∈ WG := WG_of (i := 393) (by decide +kernel) rfl
theorem wc_L_cell : (Cond.code yL_cell cL_cell 2 (some FieldType.int)) ∈ WG := WG_of (i := 394) (by decide +kernel) rfl
theorem wm_RL_76 : (Cond.methodLink RL 76 yL_ask) ∈ WG := WG_of (i := 395) (by decide +kernel) rfl
theorem wt_L_ask : (Cond.static yL_ask) ∈ WG := WG_of (i := 396) (by decide +kernel) rfl
theorem wc_L_ask : (Cond.codeWith yL_ask cL_ask 7 (some FieldType.int) [(0, 14, 17, 13), (0, 14, 21, 15)]) ∈ WG := WG_of (i := 397) (by decide +kernel) rfl
theorem wl_RL_13 : (Cond.classLink RL 13 "java/lang/IndexOutOfBoundsException") ∈ WG := WG_of (i := 398) (by decide +kernel) rfl
theorem wl_RL_15 : (Cond.classLink RL 15 "java/lang/IllegalArgumentException") ∈ WG := WG_of (i := 399) (by decide +kernel) rfl
theorem wm_RL_7 : (Cond.methodLink RL 7 yX10_ask) ∈ WG := WG_of (i := 400) (by decide +kernel) rfl
theorem wi_X10_ask : (Cond.instanceMethod yX10_ask) ∈ WG := WG_of (i := 401) (by decide +kernel) rfl
theorem we_X10_ask : (Cond.selects RX10 yX10_ask yX10_ask) ∈ WG := WG_of (i := 402) (by decide +kernel) rfl
theorem wc_X10_ask : (Cond.code yX10_ask cX10_ask 7 (some FieldType.int)) ∈ WG := WG_of (i := 403) (by decide +kernel) rfl
theorem wm_RX10_74 : (Cond.methodLink RX10 74 yX10_checkIndex) ∈ WG := WG_of (i := 404) (by decide +kernel) rfl
theorem wt_X10_checkIndex : (Cond.static yX10_checkIndex) ∈ WG := WG_of (i := 405) (by decide +kernel) rfl
theorem wc_X10_checkIndex : (Cond.code yX10_checkIndex cX10_checkIndex 2 (none : Option Jvm.ClassFile.FieldType)) ∈ WG := WG_of (i := 406) (by decide +kernel) rfl
theorem wl_RX10_261 : (Cond.classLink RX10 261 "java/lang/IndexOutOfBoundsException") ∈ WG := WG_of (i := 407) (by decide +kernel) rfl
theorem wz_java_lang_IndexOutOfBoundsException : (Cond.instantiable "java/lang/IndexOutOfBoundsException" 6) ∈ WG := WG_of (i := 408) (by decide +kernel) rfl
theorem we_java_lang_IndexOutOfBoundsException_Throwable_fillInStackTrace : (Cond.selects "java/lang/IndexOutOfBoundsException" ⟨"java/lang/Throwable", "fillInStackTrace", "(I)Ljava/lang/Throwable;"⟩ ⟨"java/lang/Throwable", "fillInStackTrace", "(I)Ljava/lang/Throwable;"⟩) ∈ WG := WG_of (i := 416) (by decide +kernel) rfl
theorem wf_java_lang_Throwable_198 : (Cond.fieldLink "java/lang/Throwable" 198 "java/lang/Throwable" "backtrace" "Ljava/lang/Object;") ∈ WG := WG_of (i := 428) (by decide +kernel) rfl
theorem wi_Throwable__init_ : (Cond.instanceMethod ⟨"java/lang/Throwable", "<init>", "()V"⟩) ∈ WG := WG_of (i := 430) (by decide +kernel) rfl
theorem wc_Throwable__init_ : (Cond.code ⟨"java/lang/Throwable", "<init>", "()V"⟩ prog_24_method_1_code 1 (none : Option Jvm.ClassFile.FieldType)) ∈ WG := WG_of (i := 431) (by decide +kernel) rfl
theorem wm_java_lang_Throwable_1 : (Cond.methodLink "java/lang/Throwable" 1 objectInit) ∈ WG := WG_of (i := 432) (by decide +kernel) rfl
theorem wf_java_lang_Throwable_13 : (Cond.fieldLink "java/lang/Throwable" 13 "java/lang/Throwable" "UNASSIGNED_STACK" "[Ljava/lang/StackTraceElement;") ∈ WG := WG_of (i := 433) (by decide +kernel) rfl
theorem wf_java_lang_Throwable_20 : (Cond.fieldLink "java/lang/Throwable" 20 "java/lang/Throwable" "SUPPRESSED_SENTINEL" "Ljava/util/List;") ∈ WG := WG_of (i := 435) (by decide +kernel) rfl
theorem wm_java_lang_Throwable_27 : (Cond.methodLink "java/lang/Throwable" 27 ⟨"java/lang/Throwable", "fillInStackTrace", "()Ljava/lang/Throwable;"⟩) ∈ WG := WG_of (i := 437) (by decide +kernel) rfl
theorem wi_Throwable_fillInStackTrace : (Cond.instanceMethod ⟨"java/lang/Throwable", "fillInStackTrace", "()Ljava/lang/Throwable;"⟩) ∈ WG := WG_of (i := 438) (by decide +kernel) rfl
theorem we_java_lang_IllegalArgumentException_Throwable_fillInStackTrace : (Cond.selects "java/lang/IllegalArgumentException" ⟨"java/lang/Throwable", "fillInStackTrace", "()Ljava/lang/Throwable;"⟩ ⟨"java/lang/Throwable", "fillInStackTrace", "()Ljava/lang/Throwable;"⟩) ∈ WG := WG_of (i := 440) (by decide +kernel) rfl
theorem we_java_lang_UnsupportedOperationException_Throwable_fillInStackTrace : (Cond.selects "java/lang/UnsupportedOperationException" ⟨"java/lang/Throwable", "fillInStackTrace", "()Ljava/lang/Throwable;"⟩ ⟨"java/lang/Throwable", "fillInStackTrace", "()Ljava/lang/Throwable;"⟩) ∈ WG := WG_of (i := 441) (by decide +kernel) rfl
theorem wm_java_lang_Throwable_202 : (Cond.methodLink "java/lang/Throwable" 202 ⟨"java/lang/Throwable", "fillInStackTrace", "(I)Ljava/lang/Throwable;"⟩) ∈ WG := WG_of (i := 443) (by decide +kernel) rfl
theorem wz_java_lang_Throwable : (Cond.instantiable "java/lang/Throwable" 6) ∈ WG := WG_of (i := 446) (by decide +kernel) rfl
theorem wv_Throwable_fillInStackTrace : (Cond.native ⟨"java/lang/Throwable", "fillInStackTrace", "(I)Ljava/lang/Throwable;"⟩) ∈ WG := WG_of (i := 447) (by decide +kernel) rfl
theorem wm_RX10_263 : (Cond.methodLink RX10 263 ⟨"java/lang/IndexOutOfBoundsException", "<init>", "()V"⟩) ∈ WG := WG_of (i := 448) (by decide +kernel) rfl
theorem wi_IndexOutOfBoundsException__init_ : (Cond.instanceMethod ⟨"java/lang/IndexOutOfBoundsException", "<init>", "()V"⟩) ∈ WG := WG_of (i := 449) (by decide +kernel) rfl
theorem wc_IndexOutOfBoundsException__init_ : (Cond.code ⟨"java/lang/IndexOutOfBoundsException", "<init>", "()V"⟩ prog_18_method_1_code 1 (none : Option Jvm.ClassFile.FieldType)) ∈ WG := WG_of (i := 450) (by decide +kernel) rfl
theorem wm_java_lang_IndexOutOfBoundsException_1 : (Cond.methodLink "java/lang/IndexOutOfBoundsException" 1 ⟨"java/lang/RuntimeException", "<init>", "()V"⟩) ∈ WG := WG_of (i := 451) (by decide +kernel) rfl
theorem wi_RuntimeException__init_ : (Cond.instanceMethod ⟨"java/lang/RuntimeException", "<init>", "()V"⟩) ∈ WG := WG_of (i := 452) (by decide +kernel) rfl
theorem wc_RuntimeException__init_ : (Cond.code ⟨"java/lang/RuntimeException", "<init>", "()V"⟩ prog_22_method_1_code 1 (none : Option Jvm.ClassFile.FieldType)) ∈ WG := WG_of (i := 453) (by decide +kernel) rfl
theorem wm_java_lang_RuntimeException_1 : (Cond.methodLink "java/lang/RuntimeException" 1 ⟨"java/lang/Exception", "<init>", "()V"⟩) ∈ WG := WG_of (i := 454) (by decide +kernel) rfl
theorem wi_Exception__init_ : (Cond.instanceMethod ⟨"java/lang/Exception", "<init>", "()V"⟩) ∈ WG := WG_of (i := 455) (by decide +kernel) rfl
theorem wc_Exception__init_ : (Cond.code ⟨"java/lang/Exception", "<init>", "()V"⟩ prog_16_method_1_code 1 (none : Option Jvm.ClassFile.FieldType)) ∈ WG := WG_of (i := 456) (by decide +kernel) rfl
theorem wm_java_lang_Exception_1 : (Cond.methodLink "java/lang/Exception" 1 ⟨"java/lang/Throwable", "<init>", "()V"⟩) ∈ WG := WG_of (i := 457) (by decide +kernel) rfl
theorem wf_java_lang_Throwable_7 : (Cond.fieldLink "java/lang/Throwable" 7 "java/lang/Throwable" "cause" "Ljava/lang/Throwable;") ∈ WG := WG_of (i := 459) (by decide +kernel) rfl
theorem wf_java_lang_Throwable_17 : (Cond.fieldLink "java/lang/Throwable" 17 "java/lang/Throwable" "stackTrace" "[Ljava/lang/StackTraceElement;") ∈ WG := WG_of (i := 460) (by decide +kernel) rfl
theorem wf_java_lang_Throwable_24 : (Cond.fieldLink "java/lang/Throwable" 24 "java/lang/Throwable" "suppressedExceptions" "Ljava/util/List;") ∈ WG := WG_of (i := 461) (by decide +kernel) rfl
theorem wm_RX10_78 : (Cond.methodLink RX10 78 yX10_checkWhat) ∈ WG := WG_of (i := 470) (by decide +kernel) rfl
theorem wt_X10_checkWhat : (Cond.static yX10_checkWhat) ∈ WG := WG_of (i := 471) (by decide +kernel) rfl
theorem wc_X10_checkWhat : (Cond.code yX10_checkWhat cX10_checkWhat 2 (none : Option Jvm.ClassFile.FieldType)) ∈ WG := WG_of (i := 472) (by decide +kernel) rfl
theorem wl_RX10_264 : (Cond.classLink RX10 264 "java/lang/IllegalArgumentException") ∈ WG := WG_of (i := 473) (by decide +kernel) rfl
theorem wz_java_lang_IllegalArgumentException : (Cond.instantiable "java/lang/IllegalArgumentException" 6) ∈ WG := WG_of (i := 474) (by decide +kernel) rfl
theorem wm_RX10_266 : (Cond.methodLink RX10 266 ⟨"java/lang/IllegalArgumentException", "<init>", "()V"⟩) ∈ WG := WG_of (i := 482) (by decide +kernel) rfl
theorem wi_IllegalArgumentException__init_ : (Cond.instanceMethod ⟨"java/lang/IllegalArgumentException", "<init>", "()V"⟩) ∈ WG := WG_of (i := 483) (by decide +kernel) rfl
theorem wc_IllegalArgumentException__init_ : (Cond.code ⟨"java/lang/IllegalArgumentException", "<init>", "()V"⟩ prog_17_method_1_code 1 (none : Option Jvm.ClassFile.FieldType)) ∈ WG := WG_of (i := 484) (by decide +kernel) rfl
theorem wm_java_lang_IllegalArgumentException_1 : (Cond.methodLink "java/lang/IllegalArgumentException" 1 ⟨"java/lang/RuntimeException", "<init>", "()V"⟩) ∈ WG := WG_of (i := 485) (by decide +kernel) rfl
theorem wi_X2_isBusy : (Cond.instanceMethod yX2_isBusy) ∈ WG := WG_of (i := 490) (by decide +kernel) rfl
theorem wc_X2_isBusy : (Cond.code yX2_isBusy cX2_isBusy 1 (some FieldType.boolean)) ∈ WG := WG_of (i := 491) (by decide +kernel) rfl
theorem wl_RX10_89 : (Cond.classLink RX10 89 RX6) ∈ WG := WG_of (i := 493) (by decide +kernel) rfl
theorem wi_X2_latestNumber : (Cond.instanceMethod yX2_latestNumber) ∈ WG := WG_of (i := 496) (by decide +kernel) rfl
theorem wc_X2_latestNumber : (Cond.code yX2_latestNumber cX2_latestNumber 1 (some FieldType.int)) ∈ WG := WG_of (i := 497) (by decide +kernel) rfl
theorem wi_X6_init : (Cond.instanceMethod yX6_init) ∈ WG := WG_of (i := 499) (by decide +kernel) rfl
theorem wc_X6_init : (Cond.code yX6_init cX6_init 6 (none : Option Jvm.ClassFile.FieldType)) ∈ WG := WG_of (i := 500) (by decide +kernel) rfl
theorem wm_RX6_3 : (Cond.methodLink RX6 3 objectInit) ∈ WG := WG_of (i := 501) (by decide +kernel) rfl
theorem wf_RX6_9 : (Cond.fieldLink RX6 9 "OneTrip$Operation" "asker" "I") ∈ WG := WG_of (i := 502) (by decide +kernel) rfl
theorem wf_RX6_15 : (Cond.fieldLink RX6 15 "OneTrip$Operation" "number" "I") ∈ WG := WG_of (i := 505) (by decide +kernel) rfl
theorem wf_RX6_18 : (Cond.fieldLink RX6 18 "OneTrip$Operation" "what" "I") ∈ WG := WG_of (i := 510) (by decide +kernel) rfl
theorem wf_RX6_21 : (Cond.fieldLink RX6 21 "OneTrip$Operation" "key" "I") ∈ WG := WG_of (i := 511) (by decide +kernel) rfl
theorem wf_RX6_24 : (Cond.fieldLink RX6 24 "OneTrip$Operation" "v" "I") ∈ WG := WG_of (i := 515) (by decide +kernel) rfl
theorem wf_RX6_30 : (Cond.fieldLink RX6 30 "OneTrip$Operation" "askedAt" "I") ∈ WG := WG_of (i := 517) (by decide +kernel) rfl
theorem wf_RX6_27 : (Cond.fieldLink RX6 27 "OneTrip$Operation" "doneAt" "I") ∈ WG := WG_of (i := 518) (by decide +kernel) rfl
theorem wm_RX10_107 : (Cond.methodLink RX10 107 yX10_sendRequest) ∈ WG := WG_of (i := 540) (by decide +kernel) rfl
theorem wi_X10_sendRequest : (Cond.instanceMethod yX10_sendRequest) ∈ WG := WG_of (i := 542) (by decide +kernel) rfl
theorem wc_X10_sendRequest : (Cond.code yX10_sendRequest cX10_sendRequest 4 (none : Option Jvm.ClassFile.FieldType)) ∈ WG := WG_of (i := 543) (by decide +kernel) rfl
theorem wi_X2_forgetReplies : (Cond.instanceMethod yX2_forgetReplies) ∈ WG := WG_of (i := 546) (by decide +kernel) rfl
theorem wc_X2_forgetReplies : (Cond.code yX2_forgetReplies cX2_forgetReplies 1 (none : Option Jvm.ClassFile.FieldType)) ∈ WG := WG_of (i := 547) (by decide +kernel) rfl
theorem wt_X4_toMaster : (Cond.static yX4_toMaster) ∈ WG := WG_of (i := 549) (by decide +kernel) rfl
theorem wc_X4_toMaster : (Cond.code yX4_toMaster cX4_toMaster 3 (some (FieldType.object "OneTrip$Letter"))) ∈ WG := WG_of (i := 550) (by decide +kernel) rfl
theorem wl_RX4_10 : (Cond.classLink RX4 10 RX4) ∈ WG := WG_of (i := 551) (by decide +kernel) rfl
theorem wz_RX4 : (Cond.instantiable RX4 7) ∈ WG := WG_of (i := 552) (by decide +kernel) rfl
theorem wm_RX4_41 : (Cond.methodLink RX4 41 yX4_init) ∈ WG := WG_of (i := 553) (by decide +kernel) rfl
theorem wi_X4_init : (Cond.instanceMethod yX4_init) ∈ WG := WG_of (i := 554) (by decide +kernel) rfl
theorem wc_X4_init : (Cond.code yX4_init cX4_init 8 (none : Option Jvm.ClassFile.FieldType)) ∈ WG := WG_of (i := 555) (by decide +kernel) rfl
theorem wm_RX4_3 : (Cond.methodLink RX4 3 objectInit) ∈ WG := WG_of (i := 556) (by decide +kernel) rfl
theorem wf_RX4_9 : (Cond.fieldLink RX4 9 "OneTrip$Letter" "kind" "I") ∈ WG := WG_of (i := 557) (by decide +kernel) rfl
theorem wf_RX4_15 : (Cond.fieldLink RX4 15 "OneTrip$Letter" "epoch" "I") ∈ WG := WG_of (i := 559) (by decide +kernel) rfl
theorem wf_RX4_18 : (Cond.fieldLink RX4 18 "OneTrip$Letter" "who" "I") ∈ WG := WG_of (i := 561) (by decide +kernel) rfl
theorem wf_RX4_21 : (Cond.fieldLink RX4 21 "OneTrip$Letter" "op" "LOneTrip$Operation;") ∈ WG := WG_of (i := 563) (by decide +kernel) rfl
theorem wf_RX4_25 : (Cond.fieldLink RX4 25 "OneTrip$Letter" "number" "I") ∈ WG := WG_of (i := 565) (by decide +kernel) rfl
theorem wf_RX4_28 : (Cond.fieldLink RX4 28 "OneTrip$Letter" "extra" "I") ∈ WG := WG_of (i := 567) (by decide +kernel) rfl
theorem wf_RX4_31 : (Cond.fieldLink RX4 31 "OneTrip$Letter" "safe" "Z") ∈ WG := WG_of (i := 569) (by decide +kernel) rfl
theorem wi_X7_send : (Cond.instanceMethod yX7_send) ∈ WG := WG_of (i := 588) (by decide +kernel) rfl
theorem wc_X7_send : (Cond.code yX7_send cX7_send 2 (none : Option Jvm.ClassFile.FieldType)) ∈ WG := WG_of (i := 589) (by decide +kernel) rfl
theorem wm_RX7_35 : (Cond.methodLink RX7 35 yJx4a65c_add_9ea2d) ∈ WG := WG_of (i := 590) (by decide +kernel) rfl
theorem wt_X4_toRecord : (Cond.static yX4_toRecord) ∈ WG := WG_of (i := 593) (by decide +kernel) rfl
theorem wc_X4_toRecord : (Cond.code yX4_toRecord cX4_toRecord 3 (some (FieldType.object "OneTrip$Letter"))) ∈ WG := WG_of (i := 594) (by decide +kernel) rfl
theorem wm_RL_84 : (Cond.methodLink RL 84 yL_retry) ∈ WG := WG_of (i := 595) (by decide +kernel) rfl
theorem wt_L_retry : (Cond.static yL_retry) ∈ WG := WG_of (i := 596) (by decide +kernel) rfl
theorem wc_L_retry : (Cond.codeWith yL_retry cL_retry 4 (some FieldType.int) [(0, 16, 19, 13)]) ∈ WG := WG_of (i := 597) (by decide +kernel) rfl
theorem wm_RL_17 : (Cond.methodLink RL 17 yX10_retry) ∈ WG := WG_of (i := 598) (by decide +kernel) rfl
theorem wi_X10_retry : (Cond.instanceMethod yX10_retry) ∈ WG := WG_of (i := 599) (by decide +kernel) rfl
theorem we_X10_retry : (Cond.selects RX10 yX10_retry yX10_retry) ∈ WG := WG_of (i := 600) (by decide +kernel) rfl
theorem wc_X10_retry : (Cond.code yX10_retry cX10_retry 2 (some FieldType.boolean)) ∈ WG := WG_of (i := 601) (by decide +kernel) rfl
theorem wm_RX10_114 : (Cond.methodLink RX10 114 yX10_tryAgain) ∈ WG := WG_of (i := 602) (by decide +kernel) rfl
theorem wi_X10_tryAgain : (Cond.instanceMethod yX10_tryAgain) ∈ WG := WG_of (i := 604) (by decide +kernel) rfl
theorem wc_X10_tryAgain : (Cond.code yX10_tryAgain cX10_tryAgain 3 (some FieldType.boolean)) ∈ WG := WG_of (i := 605) (by decide +kernel) rfl
theorem wm_RL_88 : (Cond.methodLink RL 88 yL_learn) ∈ WG := WG_of (i := 607) (by decide +kernel) rfl
theorem wt_L_learn : (Cond.static yL_learn) ∈ WG := WG_of (i := 608) (by decide +kernel) rfl
theorem wc_L_learn : (Cond.codeWith yL_learn cL_learn 4 (some FieldType.int) [(0, 9, 12, 13)]) ∈ WG := WG_of (i := 609) (by decide +kernel) rfl
theorem wm_RL_21 : (Cond.methodLink RL 21 yX10_learn) ∈ WG := WG_of (i := 610) (by decide +kernel) rfl
theorem wi_X10_learn : (Cond.instanceMethod yX10_learn) ∈ WG := WG_of (i := 611) (by decide +kernel) rfl
theorem we_X10_learn : (Cond.selects RX10 yX10_learn yX10_learn) ∈ WG := WG_of (i := 612) (by decide +kernel) rfl
theorem wc_X10_learn : (Cond.code yX10_learn cX10_learn 4 (some FieldType.int)) ∈ WG := WG_of (i := 613) (by decide +kernel) rfl
theorem wm_RL_91 : (Cond.methodLink RL 91 yL_deliver) ∈ WG := WG_of (i := 614) (by decide +kernel) rfl
theorem wt_L_deliver : (Cond.static yL_deliver) ∈ WG := WG_of (i := 615) (by decide +kernel) rfl
theorem wc_L_deliver : (Cond.codeWith yL_deliver cL_deliver 4 (some FieldType.int) [(0, 9, 12, 13)]) ∈ WG := WG_of (i := 616) (by decide +kernel) rfl
theorem wm_RL_25 : (Cond.methodLink RL 25 yX10_deliver) ∈ WG := WG_of (i := 617) (by decide +kernel) rfl
theorem wi_X10_deliver : (Cond.instanceMethod yX10_deliver) ∈ WG := WG_of (i := 618) (by decide +kernel) rfl
theorem we_X10_deliver : (Cond.selects RX10 yX10_deliver yX10_deliver) ∈ WG := WG_of (i := 619) (by decide +kernel) rfl
theorem wc_X10_deliver : (Cond.code yX10_deliver cX10_deliver 3 (some FieldType.int)) ∈ WG := WG_of (i := 620) (by decide +kernel) rfl
theorem wi_X7_take : (Cond.instanceMethod yX7_take) ∈ WG := WG_of (i := 623) (by decide +kernel) rfl
theorem wc_X7_take : (Cond.code yX7_take cX7_take 2 (some (FieldType.object "OneTrip$Letter"))) ∈ WG := WG_of (i := 624) (by decide +kernel) rfl
theorem wm_RX7_28 : (Cond.methodLink RX7 28 yJx4a65c_remove_915e3) ∈ WG := WG_of (i := 625) (by decide +kernel) rfl
theorem wi_Jx4a65c_remove_915e3 : (Cond.instanceMethod yJx4a65c_remove_915e3) ∈ WG := WG_of (i := 626) (by decide +kernel) rfl
theorem we_Jx4a65c_remove_915e3 : (Cond.selects RJx4a65c yJx4a65c_remove_915e3 yJx4a65c_remove_915e3) ∈ WG := WG_of (i := 627) (by decide +kernel) rfl
theorem wc_Jx4a65c_remove_915e3 : (Cond.code yJx4a65c_remove_915e3 cJx4a65c_remove_915e3 4 (some (FieldType.object "java/lang/Object"))) ∈ WG := WG_of (i := 628) (by decide +kernel) rfl
theorem wm_RJx4a65c_144 : (Cond.methodLink RJx4a65c 144 yJx4a65c_fastRemove_b59b0) ∈ WG := WG_of (i := 629) (by decide +kernel) rfl
theorem wi_Jx4a65c_fastRemove_b59b0 : (Cond.instanceMethod yJx4a65c_fastRemove_b59b0) ∈ WG := WG_of (i := 631) (by decide +kernel) rfl
theorem wc_Jx4a65c_fastRemove_b59b0 : (Cond.code yJx4a65c_fastRemove_b59b0 cJx4a65c_fastRemove_b59b0 4 (none : Option Jvm.ClassFile.FieldType)) ∈ WG := WG_of (i := 632) (by decide +kernel) rfl
theorem wm_RJx4a65c_112 : (Cond.methodLink RJx4a65c 112 ⟨"java/lang/System", "arraycopy", "(Ljava/lang/Object;ILjava/lang/Object;II)V"⟩) ∈ WG := WG_of (i := 633) (by decide +kernel) rfl
theorem wl_RX7_26 : (Cond.classLink RX7 26 RX4) ∈ WG := WG_of (i := 634) (by decide +kernel) rfl
theorem wm_RX10_131 : (Cond.methodLink RX10 131 yX10_readAtMaster) ∈ WG := WG_of (i := 635) (by decide +kernel) rfl
theorem wi_X10_readAtMaster : (Cond.instanceMethod yX10_readAtMaster) ∈ WG := WG_of (i := 637) (by decide +kernel) rfl
theorem wc_X10_readAtMaster : (Cond.code yX10_readAtMaster cX10_readAtMaster 3 (none : Option Jvm.ClassFile.FieldType)) ∈ WG := WG_of (i := 638) (by decide +kernel) rfl
theorem wm_RX10_283 : (Cond.methodLink RX10 283 yX10_livingMasterOf) ∈ WG := WG_of (i := 639) (by decide +kernel) rfl
theorem wi_X10_livingMasterOf : (Cond.instanceMethod yX10_livingMasterOf) ∈ WG := WG_of (i := 641) (by decide +kernel) rfl
theorem wc_X10_livingMasterOf : (Cond.code yX10_livingMasterOf cX10_livingMasterOf 3 (some (FieldType.object "OneTrip$Master"))) ∈ WG := WG_of (i := 642) (by decide +kernel) rfl
theorem wi_X5_readAck : (Cond.instanceMethod yX5_readAck) ∈ WG := WG_of (i := 645) (by decide +kernel) rfl
theorem wc_X5_readAck : (Cond.code yX5_readAck cX5_readAck 6 (none : Option Jvm.ClassFile.FieldType)) ∈ WG := WG_of (i := 646) (by decide +kernel) rfl
theorem wm_RX5_166 : (Cond.methodLink RX5 166 yX5_confirmGets) ∈ WG := WG_of (i := 647) (by decide +kernel) rfl
theorem wi_X5_confirmGets : (Cond.instanceMethod yX5_confirmGets) ∈ WG := WG_of (i := 649) (by decide +kernel) rfl
theorem wc_X5_confirmGets : (Cond.code yX5_confirmGets cX5_confirmGets 5 (none : Option Jvm.ClassFile.FieldType)) ∈ WG := WG_of (i := 650) (by decide +kernel) rfl
theorem wm_RX5_58 : (Cond.methodLink RX5 58 yJx4a65c_size_8abf5) ∈ WG := WG_of (i := 651) (by decide +kernel) rfl
theorem wm_RX5_62 : (Cond.methodLink RX5 62 yJx4a65c_get_915e3) ∈ WG := WG_of (i := 652) (by decide +kernel) rfl
theorem wl_RX5_154 : (Cond.classLink RX5 154 RX8) ∈ WG := WG_of (i := 653) (by decide +kernel) rfl
theorem wm_RX5_170 : (Cond.methodLink RX5 170 yX5_leastTold) ∈ WG := WG_of (i := 654) (by decide +kernel) rfl
theorem wi_X5_leastTold : (Cond.instanceMethod yX5_leastTold) ∈ WG := WG_of (i := 656) (by decide +kernel) rfl
theorem wc_X5_leastTold : (Cond.code yX5_leastTold cX5_leastTold 3 (some FieldType.int)) ∈ WG := WG_of (i := 657) (by decide +kernel) rfl
theorem wm_RX5_191 : (Cond.methodLink RX5 191 yJ9_min_7cf53) ∈ WG := WG_of (i := 658) (by decide +kernel) rfl
theorem wm_RX5_173 : (Cond.methodLink RX5 173 yX5_answerAwaited) ∈ WG := WG_of (i := 659) (by decide +kernel) rfl
theorem wi_X5_answerAwaited : (Cond.instanceMethod yX5_answerAwaited) ∈ WG := WG_of (i := 661) (by decide +kernel) rfl
theorem wc_X5_answerAwaited : (Cond.code yX5_answerAwaited cX5_answerAwaited 4 (none : Option Jvm.ClassFile.FieldType)) ∈ WG := WG_of (i := 662) (by decide +kernel) rfl
theorem wl_RX5_66 : (Cond.classLink RX5 66 RX3) ∈ WG := WG_of (i := 663) (by decide +kernel) rfl
theorem wm_RX5_140 : (Cond.methodLink RX5 140 yX5_sendAnswer) ∈ WG := WG_of (i := 664) (by decide +kernel) rfl
theorem wi_X5_sendAnswer : (Cond.instanceMethod yX5_sendAnswer) ∈ WG := WG_of (i := 666) (by decide +kernel) rfl
theorem wc_X5_sendAnswer : (Cond.code yX5_sendAnswer cX5_sendAnswer 3 (none : Option Jvm.ClassFile.FieldType)) ∈ WG := WG_of (i := 667) (by decide +kernel) rfl
theorem wt_X4_toAnswer : (Cond.static yX4_toAnswer) ∈ WG := WG_of (i := 669) (by decide +kernel) rfl
theorem wc_X4_toAnswer : (Cond.code yX4_toAnswer cX4_toAnswer 4 (some (FieldType.object "OneTrip$Letter"))) ∈ WG := WG_of (i := 670) (by decide +kernel) rfl
theorem wm_RX5_182 : (Cond.methodLink RX5 182 yX5_sendResets) ∈ WG := WG_of (i := 672) (by decide +kernel) rfl
theorem wi_X5_sendResets : (Cond.instanceMethod yX5_sendResets) ∈ WG := WG_of (i := 674) (by decide +kernel) rfl
theorem wc_X5_sendResets : (Cond.code yX5_sendResets cX5_sendResets 2 (none : Option Jvm.ClassFile.FieldType)) ∈ WG := WG_of (i := 675) (by decide +kernel) rfl
theorem wt_X4_toWitness : (Cond.static yX4_toWitness) ∈ WG := WG_of (i := 677) (by decide +kernel) rfl
theorem wc_X4_toWitness : (Cond.code yX4_toWitness cX4_toWitness 4 (some (FieldType.object "OneTrip$Letter"))) ∈ WG := WG_of (i := 678) (by decide +kernel) rfl
theorem wm_RX5_185 : (Cond.methodLink RX5 185 yX5_sendGcs) ∈ WG := WG_of (i := 679) (by decide +kernel) rfl
theorem wi_X5_sendGcs : (Cond.instanceMethod yX5_sendGcs) ∈ WG := WG_of (i := 681) (by decide +kernel) rfl
theorem wc_X5_sendGcs : (Cond.code yX5_sendGcs cX5_sendGcs 2 (none : Option Jvm.ClassFile.FieldType)) ∈ WG := WG_of (i := 682) (by decide +kernel) rfl
theorem wm_RX5_188 : (Cond.methodLink RX5 188 yX5_answerGets) ∈ WG := WG_of (i := 683) (by decide +kernel) rfl
theorem wi_X5_answerGets : (Cond.instanceMethod yX5_answerGets) ∈ WG := WG_of (i := 685) (by decide +kernel) rfl
theorem wc_X5_answerGets : (Cond.code yX5_answerGets cX5_answerGets 3 (none : Option Jvm.ClassFile.FieldType)) ∈ WG := WG_of (i := 686) (by decide +kernel) rfl
theorem wm_RX5_198 : (Cond.methodLink RX5 198 yX5_isReady) ∈ WG := WG_of (i := 687) (by decide +kernel) rfl
theorem wi_X5_isReady : (Cond.instanceMethod yX5_isReady) ∈ WG := WG_of (i := 689) (by decide +kernel) rfl
theorem wc_X5_isReady : (Cond.code yX5_isReady cX5_isReady 3 (some FieldType.boolean)) ∈ WG := WG_of (i := 690) (by decide +kernel) rfl
theorem wm_RX5_220 : (Cond.methodLink RX5 220 yJ6_bitCount_0f7a4) ∈ WG := WG_of (i := 691) (by decide +kernel) rfl
theorem wt_J6_bitCount_0f7a4 : (Cond.static yJ6_bitCount_0f7a4) ∈ WG := WG_of (i := 692) (by decide +kernel) rfl
theorem wc_J6_bitCount_0f7a4 : (Cond.code yJ6_bitCount_0f7a4 cJ6_bitCount_0f7a4 1 (some FieldType.int)) ∈ WG := WG_of (i := 693) (by decide +kernel) rfl
theorem wo_694 : (Cond.constant "java/lang/Integer" 265 (1431655765 : Int32)) ∈ WG := WG_of (i := 694) (by decide +kernel) rfl
theorem wo_695 : (Cond.constant "java/lang/Integer" 266 (858993459 : Int32)) ∈ WG := WG_of (i := 695) (by decide +kernel) rfl
theorem wo_696 : (Cond.constant "java/lang/Integer" 267 (252645135 : Int32)) ∈ WG := WG_of (i := 696) (by decide +kernel) rfl
theorem wm_RX5_217 : (Cond.methodLink RX5 217 yJx4a65c_remove_915e3) ∈ WG := WG_of (i := 697) (by decide +kernel) rfl
theorem wi_X5_readExec : (Cond.instanceMethod yX5_readExec) ∈ WG := WG_of (i := 700) (by decide +kernel) rfl
theorem wc_X5_readExec : (Cond.code yX5_readExec cX5_readExec 3 (none : Option Jvm.ClassFile.FieldType)) ∈ WG := WG_of (i := 701) (by decide +kernel) rfl
theorem wm_RX5_86 : (Cond.methodLink RX5 86 yX5_placeOf) ∈ WG := WG_of (i := 702) (by decide +kernel) rfl
theorem wi_X5_placeOf : (Cond.instanceMethod yX5_placeOf) ∈ WG := WG_of (i := 704) (by decide +kernel) rfl
theorem wc_X5_placeOf : (Cond.code yX5_placeOf cX5_placeOf 3 (some FieldType.int)) ∈ WG := WG_of (i := 705) (by decide +kernel) rfl
theorem wm_RX5_125 : (Cond.methodLink RX5 125 yX5_answerAgain) ∈ WG := WG_of (i := 706) (by decide +kernel) rfl
theorem wi_X5_answerAgain : (Cond.instanceMethod yX5_answerAgain) ∈ WG := WG_of (i := 708) (by decide +kernel) rfl
theorem wc_X5_answerAgain : (Cond.code yX5_answerAgain cX5_answerAgain 3 (none : Option Jvm.ClassFile.FieldType)) ∈ WG := WG_of (i := 709) (by decide +kernel) rfl
theorem wm_RX5_147 : (Cond.methodLink RX5 147 yX5_sendSyncs) ∈ WG := WG_of (i := 710) (by decide +kernel) rfl
theorem wi_X5_sendSyncs : (Cond.instanceMethod yX5_sendSyncs) ∈ WG := WG_of (i := 712) (by decide +kernel) rfl
theorem wc_X5_sendSyncs : (Cond.code yX5_sendSyncs cX5_sendSyncs 2 (none : Option Jvm.ClassFile.FieldType)) ∈ WG := WG_of (i := 713) (by decide +kernel) rfl
theorem wt_X4_toSync : (Cond.static yX4_toSync) ∈ WG := WG_of (i := 715) (by decide +kernel) rfl
theorem wc_X4_toSync : (Cond.code yX4_toSync cX4_toSync 4 (some (FieldType.object "OneTrip$Letter"))) ∈ WG := WG_of (i := 716) (by decide +kernel) rfl
theorem wm_RX5_90 : (Cond.methodLink RX5 90 yX5_hasLaterOneThan) ∈ WG := WG_of (i := 717) (by decide +kernel) rfl
theorem wi_X5_hasLaterOneThan : (Cond.instanceMethod yX5_hasLaterOneThan) ∈ WG := WG_of (i := 719) (by decide +kernel) rfl
theorem wc_X5_hasLaterOneThan : (Cond.code yX5_hasLaterOneThan cX5_hasLaterOneThan 4 (some FieldType.boolean)) ∈ WG := WG_of (i := 720) (by decide +kernel) rfl
theorem wm_RX5_133 : (Cond.methodLink RX5 133 yX5_execute) ∈ WG := WG_of (i := 722) (by decide +kernel) rfl
theorem wi_X5_execute : (Cond.instanceMethod yX5_execute) ∈ WG := WG_of (i := 724) (by decide +kernel) rfl
theorem wc_X5_execute : (Cond.code yX5_execute cX5_execute 4 (none : Option Jvm.ClassFile.FieldType)) ∈ WG := WG_of (i := 725) (by decide +kernel) rfl
theorem wm_RX5_150 : (Cond.methodLink RX5 150 yX5_hasUnsyncedOf) ∈ WG := WG_of (i := 726) (by decide +kernel) rfl
theorem wi_X5_hasUnsyncedOf : (Cond.instanceMethod yX5_hasUnsyncedOf) ∈ WG := WG_of (i := 728) (by decide +kernel) rfl
theorem wc_X5_hasUnsyncedOf : (Cond.code yX5_hasUnsyncedOf cX5_hasUnsyncedOf 3 (some FieldType.boolean)) ∈ WG := WG_of (i := 729) (by decide +kernel) rfl
theorem wm_RX5_72 : (Cond.methodLink RX5 72 yX5_append) ∈ WG := WG_of (i := 730) (by decide +kernel) rfl
theorem wi_X5_append : (Cond.instanceMethod yX5_append) ∈ WG := WG_of (i := 732) (by decide +kernel) rfl
theorem wc_X5_append : (Cond.code yX5_append cX5_append 5 (some (FieldType.object "OneTrip$Entry"))) ∈ WG := WG_of (i := 733) (by decide +kernel) rfl
theorem wm_RX5_99 : (Cond.methodLink RX5 99 yX5_valueOf) ∈ WG := WG_of (i := 734) (by decide +kernel) rfl
theorem wi_X5_valueOf : (Cond.instanceMethod yX5_valueOf) ∈ WG := WG_of (i := 736) (by decide +kernel) rfl
theorem wc_X5_valueOf : (Cond.code yX5_valueOf cX5_valueOf 2 (some FieldType.int)) ∈ WG := WG_of (i := 737) (by decide +kernel) rfl
theorem wz_RX3 : (Cond.instantiable RX3 4) ∈ WG := WG_of (i := 738) (by decide +kernel) rfl
theorem wi_X6_answerAfter : (Cond.instanceMethod yX6_answerAfter) ∈ WG := WG_of (i := 741) (by decide +kernel) rfl
theorem wc_X6_answerAfter : (Cond.code yX6_answerAfter cX6_answerAfter 2 (some FieldType.int)) ∈ WG := WG_of (i := 742) (by decide +kernel) rfl
theorem wi_X3_init : (Cond.instanceMethod yX3_init) ∈ WG := WG_of (i := 744) (by decide +kernel) rfl
theorem wc_X3_init : (Cond.code yX3_init cX3_init 4 (none : Option Jvm.ClassFile.FieldType)) ∈ WG := WG_of (i := 745) (by decide +kernel) rfl
theorem wm_RX3_1 : (Cond.methodLink RX3 1 objectInit) ∈ WG := WG_of (i := 746) (by decide +kernel) rfl
theorem wf_RX3_7 : (Cond.fieldLink RX3 7 "OneTrip$Entry" "op" "LOneTrip$Operation;") ∈ WG := WG_of (i := 747) (by decide +kernel) rfl
theorem wf_RX3_13 : (Cond.fieldLink RX3 13 "OneTrip$Entry" "answer" "I") ∈ WG := WG_of (i := 750) (by decide +kernel) rfl
theorem wf_RX3_17 : (Cond.fieldLink RX3 17 "OneTrip$Entry" "late" "Z") ∈ WG := WG_of (i := 753) (by decide +kernel) rfl
theorem wm_RX5_109 : (Cond.methodLink RX5 109 yJx4a65c_add_9ea2d) ∈ WG := WG_of (i := 765) (by decide +kernel) rfl
theorem wm_RX5_137 : (Cond.methodLink RX5 137 yX5_letWait) ∈ WG := WG_of (i := 767) (by decide +kernel) rfl
theorem wi_X5_letWait : (Cond.instanceMethod yX5_letWait) ∈ WG := WG_of (i := 769) (by decide +kernel) rfl
theorem wc_X5_letWait : (Cond.code yX5_letWait cX5_letWait 3 (none : Option Jvm.ClassFile.FieldType)) ∈ WG := WG_of (i := 770) (by decide +kernel) rfl
theorem wz_RX8 : (Cond.instantiable RX8 5) ∈ WG := WG_of (i := 771) (by decide +kernel) rfl
theorem wi_X8_init : (Cond.instanceMethod yX8_init) ∈ WG := WG_of (i := 773) (by decide +kernel) rfl
theorem wc_X8_init : (Cond.code yX8_init cX8_init 5 (none : Option Jvm.ClassFile.FieldType)) ∈ WG := WG_of (i := 774) (by decide +kernel) rfl
theorem wm_RX8_1 : (Cond.methodLink RX8 1 objectInit) ∈ WG := WG_of (i := 775) (by decide +kernel) rfl
theorem wf_RX8_7 : (Cond.fieldLink RX8 7 "OneTrip$WaitingGet" "op" "LOneTrip$Operation;") ∈ WG := WG_of (i := 776) (by decide +kernel) rfl
theorem wf_RX8_13 : (Cond.fieldLink RX8 13 "OneTrip$WaitingGet" "place" "I") ∈ WG := WG_of (i := 778) (by decide +kernel) rfl
theorem wf_RX8_17 : (Cond.fieldLink RX8 17 "OneTrip$WaitingGet" "valueThere" "I") ∈ WG := WG_of (i := 780) (by decide +kernel) rfl
theorem wf_RX8_20 : (Cond.fieldLink RX8 20 "OneTrip$WaitingGet" "syncs" "I") ∈ WG := WG_of (i := 782) (by decide +kernel) rfl
theorem wi_X5_readSyncNow : (Cond.instanceMethod yX5_readSyncNow) ∈ WG := WG_of (i := 798) (by decide +kernel) rfl
theorem wc_X5_readSyncNow : (Cond.code yX5_readSyncNow cX5_readSyncNow 4 (none : Option Jvm.ClassFile.FieldType)) ∈ WG := WG_of (i := 799) (by decide +kernel) rfl
theorem wm_RX10_135 : (Cond.methodLink RX10 135 yX10_readAtClient) ∈ WG := WG_of (i := 800) (by decide +kernel) rfl
theorem wi_X10_readAtClient : (Cond.instanceMethod yX10_readAtClient) ∈ WG := WG_of (i := 802) (by decide +kernel) rfl
theorem wc_X10_readAtClient : (Cond.code yX10_readAtClient cX10_readAtClient 4 (none : Option Jvm.ClassFile.FieldType)) ∈ WG := WG_of (i := 803) (by decide +kernel) rfl
theorem wm_RX10_327 : (Cond.methodLink RX10 327 yX10_finishIfAccepted) ∈ WG := WG_of (i := 804) (by decide +kernel) rfl
theorem wi_X10_finishIfAccepted : (Cond.instanceMethod yX10_finishIfAccepted) ∈ WG := WG_of (i := 806) (by decide +kernel) rfl
theorem wc_X10_finishIfAccepted : (Cond.code yX10_finishIfAccepted cX10_finishIfAccepted 4 (none : Option Jvm.ClassFile.FieldType)) ∈ WG := WG_of (i := 807) (by decide +kernel) rfl
theorem wm_RX10_214 : (Cond.methodLink RX10 214 yJ6_bitCount_0f7a4) ∈ WG := WG_of (i := 808) (by decide +kernel) rfl
theorem wm_RX10_340 : (Cond.methodLink RX10 340 yX10_finish) ∈ WG := WG_of (i := 809) (by decide +kernel) rfl
theorem wi_X10_finish : (Cond.instanceMethod yX10_finish) ∈ WG := WG_of (i := 811) (by decide +kernel) rfl
theorem wc_X10_finish : (Cond.code yX10_finish cX10_finish 3 (none : Option Jvm.ClassFile.FieldType)) ∈ WG := WG_of (i := 812) (by decide +kernel) rfl
theorem wm_RX10_330 : (Cond.methodLink RX10 330 yX10_readAnswer) ∈ WG := WG_of (i := 813) (by decide +kernel) rfl
theorem wi_X10_readAnswer : (Cond.instanceMethod yX10_readAnswer) ∈ WG := WG_of (i := 815) (by decide +kernel) rfl
theorem wc_X10_readAnswer : (Cond.code yX10_readAnswer cX10_readAnswer 4 (none : Option Jvm.ClassFile.FieldType)) ∈ WG := WG_of (i := 816) (by decide +kernel) rfl
theorem wm_RX10_138 : (Cond.methodLink RX10 138 yX10_readAtBackup) ∈ WG := WG_of (i := 817) (by decide +kernel) rfl
theorem wi_X10_readAtBackup : (Cond.instanceMethod yX10_readAtBackup) ∈ WG := WG_of (i := 819) (by decide +kernel) rfl
theorem wc_X10_readAtBackup : (Cond.code yX10_readAtBackup cX10_readAtBackup 3 (none : Option Jvm.ClassFile.FieldType)) ∈ WG := WG_of (i := 820) (by decide +kernel) rfl
theorem wi_X1_readSync : (Cond.instanceMethod yX1_readSync) ∈ WG := WG_of (i := 823) (by decide +kernel) rfl
theorem wc_X1_readSync : (Cond.code yX1_readSync cX1_readSync 3 (some FieldType.boolean)) ∈ WG := WG_of (i := 824) (by decide +kernel) rfl
theorem wm_RX1_19 : (Cond.methodLink RX1 19 yJ9_max_7cf53) ∈ WG := WG_of (i := 825) (by decide +kernel) rfl
theorem wt_X4_toAck : (Cond.static yX4_toAck) ∈ WG := WG_of (i := 827) (by decide +kernel) rfl
theorem wc_X4_toAck : (Cond.code yX4_toAck cX4_toAck 3 (some (FieldType.object "OneTrip$Letter"))) ∈ WG := WG_of (i := 828) (by decide +kernel) rfl
theorem wm_RX10_141 : (Cond.methodLink RX10 141 yX10_readAtWitness) ∈ WG := WG_of (i := 829) (by decide +kernel) rfl
theorem wi_X10_readAtWitness : (Cond.instanceMethod yX10_readAtWitness) ∈ WG := WG_of (i := 831) (by decide +kernel) rfl
theorem wc_X10_readAtWitness : (Cond.code yX10_readAtWitness cX10_readAtWitness 4 (none : Option Jvm.ClassFile.FieldType)) ∈ WG := WG_of (i := 832) (by decide +kernel) rfl
theorem wi_X9_readReset : (Cond.instanceMethod yX9_readReset) ∈ WG := WG_of (i := 835) (by decide +kernel) rfl
theorem wc_X9_readReset : (Cond.code yX9_readReset cX9_readReset 3 (none : Option Jvm.ClassFile.FieldType)) ∈ WG := WG_of (i := 836) (by decide +kernel) rfl
theorem wi_X9_drop : (Cond.instanceMethod yX9_drop) ∈ WG := WG_of (i := 839) (by decide +kernel) rfl
theorem wc_X9_drop : (Cond.code yX9_drop cX9_drop 5 (none : Option Jvm.ClassFile.FieldType)) ∈ WG := WG_of (i := 840) (by decide +kernel) rfl
theorem wi_X9_readRecord : (Cond.instanceMethod yX9_readRecord) ∈ WG := WG_of (i := 844) (by decide +kernel) rfl
theorem wc_X9_readRecord : (Cond.code yX9_readRecord cX9_readRecord 7 (some FieldType.boolean)) ∈ WG := WG_of (i := 845) (by decide +kernel) rfl
theorem wt_X4_toClient : (Cond.static yX4_toClient) ∈ WG := WG_of (i := 847) (by decide +kernel) rfl
theorem wc_X4_toClient : (Cond.code yX4_toClient cX4_toClient 4 (some (FieldType.object "OneTrip$Letter"))) ∈ WG := WG_of (i := 848) (by decide +kernel) rfl
theorem wm_RL_94 : (Cond.methodLink RL 94 yL_lose) ∈ WG := WG_of (i := 849) (by decide +kernel) rfl
theorem wt_L_lose : (Cond.static yL_lose) ∈ WG := WG_of (i := 850) (by decide +kernel) rfl
theorem wc_L_lose : (Cond.codeWith yL_lose cL_lose 4 (some FieldType.int) [(0, 9, 12, 13)]) ∈ WG := WG_of (i := 851) (by decide +kernel) rfl
theorem wm_RL_28 : (Cond.methodLink RL 28 yX10_lose) ∈ WG := WG_of (i := 852) (by decide +kernel) rfl
theorem wi_X10_lose : (Cond.instanceMethod yX10_lose) ∈ WG := WG_of (i := 853) (by decide +kernel) rfl
theorem we_X10_lose : (Cond.selects RX10 yX10_lose yX10_lose) ∈ WG := WG_of (i := 854) (by decide +kernel) rfl
theorem wc_X10_lose : (Cond.code yX10_lose cX10_lose 2 (some FieldType.int)) ∈ WG := WG_of (i := 855) (by decide +kernel) rfl
theorem wm_RL_97 : (Cond.methodLink RL 97 yL_twice) ∈ WG := WG_of (i := 856) (by decide +kernel) rfl
theorem wt_L_twice : (Cond.static yL_twice) ∈ WG := WG_of (i := 857) (by decide +kernel) rfl
theorem wc_L_twice : (Cond.codeWith yL_twice cL_twice 4 (some FieldType.int) [(0, 9, 12, 13)]) ∈ WG := WG_of (i := 858) (by decide +kernel) rfl
theorem wm_RL_31 : (Cond.methodLink RL 31 yX10_twice) ∈ WG := WG_of (i := 859) (by decide +kernel) rfl
theorem wi_X10_twice : (Cond.instanceMethod yX10_twice) ∈ WG := WG_of (i := 860) (by decide +kernel) rfl
theorem we_X10_twice : (Cond.selects RX10 yX10_twice yX10_twice) ∈ WG := WG_of (i := 861) (by decide +kernel) rfl
theorem wc_X10_twice : (Cond.code yX10_twice cX10_twice 3 (some FieldType.int)) ∈ WG := WG_of (i := 862) (by decide +kernel) rfl
theorem wi_X7_at : (Cond.instanceMethod yX7_at) ∈ WG := WG_of (i := 865) (by decide +kernel) rfl
theorem wc_X7_at : (Cond.code yX7_at cX7_at 2 (some (FieldType.object "OneTrip$Letter"))) ∈ WG := WG_of (i := 866) (by decide +kernel) rfl
theorem wm_RX7_22 : (Cond.methodLink RX7 22 yJx4a65c_get_915e3) ∈ WG := WG_of (i := 867) (by decide +kernel) rfl
theorem wm_RL_100 : (Cond.methodLink RL 100 yL_sync) ∈ WG := WG_of (i := 868) (by decide +kernel) rfl
theorem wt_L_sync : (Cond.static yL_sync) ∈ WG := WG_of (i := 869) (by decide +kernel) rfl
theorem wc_L_sync : (Cond.codeWith yL_sync cL_sync 4 (some FieldType.int) [(0, 16, 19, 13)]) ∈ WG := WG_of (i := 870) (by decide +kernel) rfl
theorem wm_RL_34 : (Cond.methodLink RL 34 yX10_sync) ∈ WG := WG_of (i := 871) (by decide +kernel) rfl
theorem wi_X10_sync : (Cond.instanceMethod yX10_sync) ∈ WG := WG_of (i := 872) (by decide +kernel) rfl
theorem we_X10_sync : (Cond.selects RX10 yX10_sync yX10_sync) ∈ WG := WG_of (i := 873) (by decide +kernel) rfl
theorem wc_X10_sync : (Cond.code yX10_sync cX10_sync 3 (some FieldType.boolean)) ∈ WG := WG_of (i := 874) (by decide +kernel) rfl
theorem wm_RL_103 : (Cond.methodLink RL 103 yL_crash) ∈ WG := WG_of (i := 877) (by decide +kernel) rfl
theorem wt_L_crash : (Cond.static yL_crash) ∈ WG := WG_of (i := 878) (by decide +kernel) rfl
theorem wc_L_crash : (Cond.codeWith yL_crash cL_crash 4 (some FieldType.int) [(0, 16, 19, 13)]) ∈ WG := WG_of (i := 879) (by decide +kernel) rfl
theorem wm_RL_37 : (Cond.methodLink RL 37 yX10_crash) ∈ WG := WG_of (i := 880) (by decide +kernel) rfl
theorem wi_X10_crash : (Cond.instanceMethod yX10_crash) ∈ WG := WG_of (i := 881) (by decide +kernel) rfl
theorem we_X10_crash : (Cond.selects RX10 yX10_crash yX10_crash) ∈ WG := WG_of (i := 882) (by decide +kernel) rfl
theorem wc_X10_crash : (Cond.code yX10_crash cX10_crash 2 (some FieldType.boolean)) ∈ WG := WG_of (i := 883) (by decide +kernel) rfl
theorem wi_X5_fall : (Cond.instanceMethod yX5_fall) ∈ WG := WG_of (i := 886) (by decide +kernel) rfl
theorem wc_X5_fall : (Cond.code yX5_fall cX5_fall 2 (some FieldType.boolean)) ∈ WG := WG_of (i := 887) (by decide +kernel) rfl
theorem wm_RX5_55 : (Cond.methodLink RX5 55 yJx4a65c_clear_da8c8) ∈ WG := WG_of (i := 888) (by decide +kernel) rfl
theorem wi_Jx4a65c_clear_da8c8 : (Cond.instanceMethod yJx4a65c_clear_da8c8) ∈ WG := WG_of (i := 889) (by decide +kernel) rfl
theorem we_Jx4a65c_clear_da8c8 : (Cond.selects RJx4a65c yJx4a65c_clear_da8c8 yJx4a65c_clear_da8c8) ∈ WG := WG_of (i := 890) (by decide +kernel) rfl
theorem wc_Jx4a65c_clear_da8c8 : (Cond.code yJx4a65c_clear_da8c8 cJx4a65c_clear_da8c8 4 (none : Option Jvm.ClassFile.FieldType)) ∈ WG := WG_of (i := 891) (by decide +kernel) rfl
theorem wm_RL_106 : (Cond.methodLink RL 106 yL_decide) ∈ WG := WG_of (i := 892) (by decide +kernel) rfl
theorem wt_L_decide : (Cond.static yL_decide) ∈ WG := WG_of (i := 893) (by decide +kernel) rfl
theorem wc_L_decide : (Cond.codeWith yL_decide cL_decide 5 (some FieldType.int) [(0, 10, 13, 13), (0, 10, 17, 44)]) ∈ WG := WG_of (i := 894) (by decide +kernel) rfl
theorem wl_RL_44 : (Cond.classLink RL 44 "java/lang/UnsupportedOperationException") ∈ WG := WG_of (i := 895) (by decide +kernel) rfl
theorem wm_RL_40 : (Cond.methodLink RL 40 yX10_decide) ∈ WG := WG_of (i := 896) (by decide +kernel) rfl
theorem wi_X10_decide : (Cond.instanceMethod yX10_decide) ∈ WG := WG_of (i := 897) (by decide +kernel) rfl
theorem we_X10_decide : (Cond.selects RX10 yX10_decide yX10_decide) ∈ WG := WG_of (i := 898) (by decide +kernel) rfl
theorem wc_X10_decide : (Cond.code yX10_decide cX10_decide 8 (some FieldType.int)) ∈ WG := WG_of (i := 899) (by decide +kernel) rfl
theorem wl_RX10_170 : (Cond.classLink RX10 170 "java/lang/UnsupportedOperationException") ∈ WG := WG_of (i := 900) (by decide +kernel) rfl
theorem wz_java_lang_UnsupportedOperationException : (Cond.instantiable "java/lang/UnsupportedOperationException" 6) ∈ WG := WG_of (i := 901) (by decide +kernel) rfl
theorem wm_RX10_172 : (Cond.methodLink RX10 172 ⟨"java/lang/UnsupportedOperationException", "<init>", "()V"⟩) ∈ WG := WG_of (i := 909) (by decide +kernel) rfl
theorem wi_UnsupportedOperationException__init_ : (Cond.instanceMethod ⟨"java/lang/UnsupportedOperationException", "<init>", "()V"⟩) ∈ WG := WG_of (i := 910) (by decide +kernel) rfl
theorem wc_UnsupportedOperationException__init_ : (Cond.code ⟨"java/lang/UnsupportedOperationException", "<init>", "()V"⟩ prog_25_method_1_code 1 (none : Option Jvm.ClassFile.FieldType)) ∈ WG := WG_of (i := 911) (by decide +kernel) rfl
theorem wm_java_lang_UnsupportedOperationException_1 : (Cond.methodLink "java/lang/UnsupportedOperationException" 1 ⟨"java/lang/RuntimeException", "<init>", "()V"⟩) ∈ WG := WG_of (i := 912) (by decide +kernel) rfl
theorem wi_X5_takeLog : (Cond.instanceMethod yX5_takeLog) ∈ WG := WG_of (i := 917) (by decide +kernel) rfl
theorem wc_X5_takeLog : (Cond.code yX5_takeLog cX5_takeLog 4 (none : Option Jvm.ClassFile.FieldType)) ∈ WG := WG_of (i := 918) (by decide +kernel) rfl
theorem wi_X5_takeRecords : (Cond.instanceMethod yX5_takeRecords) ∈ WG := WG_of (i := 921) (by decide +kernel) rfl
theorem wc_X5_takeRecords : (Cond.code yX5_takeRecords cX5_takeRecords 4 (none : Option Jvm.ClassFile.FieldType)) ∈ WG := WG_of (i := 922) (by decide +kernel) rfl
theorem wi_X9_recordBehind : (Cond.instanceMethod yX9_recordBehind) ∈ WG := WG_of (i := 925) (by decide +kernel) rfl
theorem wc_X9_recordBehind : (Cond.code yX9_recordBehind cX9_recordBehind 5 (some (FieldType.object "OneTrip$Operation"))) ∈ WG := WG_of (i := 926) (by decide +kernel) rfl
theorem wi_X6_comesBehind : (Cond.instanceMethod yX6_comesBehind) ∈ WG := WG_of (i := 929) (by decide +kernel) rfl
theorem wc_X6_comesBehind : (Cond.code yX6_comesBehind cX6_comesBehind 2 (some FieldType.boolean)) ∈ WG := WG_of (i := 930) (by decide +kernel) rfl
theorem wm_RL_110 : (Cond.methodLink RL 110 yL_letter) ∈ WG := WG_of (i := 931) (by decide +kernel) rfl
theorem wt_L_letter : (Cond.static yL_letter) ∈ WG := WG_of (i := 932) (by decide +kernel) rfl
theorem wc_L_letter : (Cond.codeWith yL_letter cL_letter 5 (some FieldType.int) [(0, 10, 13, 13), (0, 10, 17, 15)]) ∈ WG := WG_of (i := 933) (by decide +kernel) rfl
theorem wm_RL_46 : (Cond.methodLink RL 46 yX10_letter) ∈ WG := WG_of (i := 934) (by decide +kernel) rfl
theorem wi_X10_letter : (Cond.instanceMethod yX10_letter) ∈ WG := WG_of (i := 935) (by decide +kernel) rfl
theorem we_X10_letter : (Cond.selects RX10 yX10_letter yX10_letter) ∈ WG := WG_of (i := 936) (by decide +kernel) rfl
theorem wc_X10_letter : (Cond.code yX10_letter cX10_letter 4 (some FieldType.int)) ∈ WG := WG_of (i := 937) (by decide +kernel) rfl
theorem wm_RL_113 : (Cond.methodLink RL 113 yL_client) ∈ WG := WG_of (i := 938) (by decide +kernel) rfl
theorem wt_L_client : (Cond.static yL_client) ∈ WG := WG_of (i := 939) (by decide +kernel) rfl
theorem wc_L_client : (Cond.codeWith yL_client cL_client 5 (some FieldType.int) [(0, 10, 13, 13), (0, 10, 17, 15)]) ∈ WG := WG_of (i := 940) (by decide +kernel) rfl
theorem wm_RL_49 : (Cond.methodLink RL 49 yX10_client) ∈ WG := WG_of (i := 941) (by decide +kernel) rfl
theorem wi_X10_client : (Cond.instanceMethod yX10_client) ∈ WG := WG_of (i := 942) (by decide +kernel) rfl
theorem we_X10_client : (Cond.selects RX10 yX10_client yX10_client) ∈ WG := WG_of (i := 943) (by decide +kernel) rfl
theorem wc_X10_client : (Cond.code yX10_client cX10_client 4 (some FieldType.int)) ∈ WG := WG_of (i := 944) (by decide +kernel) rfl
theorem wi_X2_told : (Cond.instanceMethod yX2_told) ∈ WG := WG_of (i := 947) (by decide +kernel) rfl
theorem wc_X2_told : (Cond.code yX2_told cX2_told 1 (some FieldType.int)) ∈ WG := WG_of (i := 948) (by decide +kernel) rfl
theorem wm_RL_116 : (Cond.methodLink RL 116 yL_master) ∈ WG := WG_of (i := 949) (by decide +kernel) rfl
theorem wt_L_master : (Cond.static yL_master) ∈ WG := WG_of (i := 950) (by decide +kernel) rfl
theorem wc_L_master : (Cond.codeWith yL_master cL_master 5 (some FieldType.int) [(0, 10, 13, 13), (0, 10, 17, 15)]) ∈ WG := WG_of (i := 951) (by decide +kernel) rfl
theorem wm_RL_52 : (Cond.methodLink RL 52 yX10_master) ∈ WG := WG_of (i := 952) (by decide +kernel) rfl
theorem wi_X10_master : (Cond.instanceMethod yX10_master) ∈ WG := WG_of (i := 953) (by decide +kernel) rfl
theorem we_X10_master : (Cond.selects RX10 yX10_master yX10_master) ∈ WG := WG_of (i := 954) (by decide +kernel) rfl
theorem wc_X10_master : (Cond.code yX10_master cX10_master 4 (some FieldType.int)) ∈ WG := WG_of (i := 955) (by decide +kernel) rfl
theorem wm_RL_119 : (Cond.methodLink RL 119 yL_value) ∈ WG := WG_of (i := 956) (by decide +kernel) rfl
theorem wt_L_value : (Cond.static yL_value) ∈ WG := WG_of (i := 957) (by decide +kernel) rfl
theorem wc_L_value : (Cond.codeWith yL_value cL_value 5 (some FieldType.int) [(0, 10, 13, 13)]) ∈ WG := WG_of (i := 958) (by decide +kernel) rfl
theorem wm_RL_55 : (Cond.methodLink RL 55 yX10_value) ∈ WG := WG_of (i := 959) (by decide +kernel) rfl
theorem wi_X10_value : (Cond.instanceMethod yX10_value) ∈ WG := WG_of (i := 960) (by decide +kernel) rfl
theorem we_X10_value : (Cond.selects RX10 yX10_value yX10_value) ∈ WG := WG_of (i := 961) (by decide +kernel) rfl
theorem wc_X10_value : (Cond.code yX10_value cX10_value 3 (some FieldType.int)) ∈ WG := WG_of (i := 962) (by decide +kernel) rfl
theorem wm_RL_122 : (Cond.methodLink RL 122 yL_backup) ∈ WG := WG_of (i := 964) (by decide +kernel) rfl
theorem wt_L_backup : (Cond.static yL_backup) ∈ WG := WG_of (i := 965) (by decide +kernel) rfl
theorem wc_L_backup : (Cond.codeWith yL_backup cL_backup 5 (some FieldType.int) [(0, 10, 13, 13), (0, 10, 17, 15)]) ∈ WG := WG_of (i := 966) (by decide +kernel) rfl
theorem wm_RL_58 : (Cond.methodLink RL 58 yX10_backup) ∈ WG := WG_of (i := 967) (by decide +kernel) rfl
theorem wi_X10_backup : (Cond.instanceMethod yX10_backup) ∈ WG := WG_of (i := 968) (by decide +kernel) rfl
theorem we_X10_backup : (Cond.selects RX10 yX10_backup yX10_backup) ∈ WG := WG_of (i := 969) (by decide +kernel) rfl
theorem wc_X10_backup : (Cond.code yX10_backup cX10_backup 4 (some FieldType.int)) ∈ WG := WG_of (i := 970) (by decide +kernel) rfl
theorem wm_RL_125 : (Cond.methodLink RL 125 yL_witness) ∈ WG := WG_of (i := 971) (by decide +kernel) rfl
theorem wt_L_witness : (Cond.static yL_witness) ∈ WG := WG_of (i := 972) (by decide +kernel) rfl
theorem wc_L_witness : (Cond.codeWith yL_witness cL_witness 5 (some FieldType.int) [(0, 10, 13, 13), (0, 10, 17, 15)]) ∈ WG := WG_of (i := 973) (by decide +kernel) rfl
theorem wm_RL_61 : (Cond.methodLink RL 61 yX10_witness) ∈ WG := WG_of (i := 974) (by decide +kernel) rfl
theorem wi_X10_witness : (Cond.instanceMethod yX10_witness) ∈ WG := WG_of (i := 975) (by decide +kernel) rfl
theorem we_X10_witness : (Cond.selects RX10 yX10_witness yX10_witness) ∈ WG := WG_of (i := 976) (by decide +kernel) rfl
theorem wc_X10_witness : (Cond.code yX10_witness cX10_witness 4 (some FieldType.int)) ∈ WG := WG_of (i := 977) (by decide +kernel) rfl
theorem wi_X9_held : (Cond.instanceMethod yX9_held) ∈ WG := WG_of (i := 980) (by decide +kernel) rfl
theorem wc_X9_held : (Cond.code yX9_held cX9_held 3 (some FieldType.int)) ∈ WG := WG_of (i := 981) (by decide +kernel) rfl
theorem wi_X9_keysHeld : (Cond.instanceMethod yX9_keysHeld) ∈ WG := WG_of (i := 984) (by decide +kernel) rfl
theorem wc_X9_keysHeld : (Cond.code yX9_keysHeld cX9_keysHeld 3 (some FieldType.int)) ∈ WG := WG_of (i := 985) (by decide +kernel) rfl
theorem wm_RL_80 : (Cond.methodLink RL 80 yX11_thrown) ∈ WG := WG_of (i := 986) (by decide +kernel) rfl
theorem wi_X11_thrown : (Cond.instanceMethod yX11_thrown) ∈ WG := WG_of (i := 987) (by decide +kernel) rfl
theorem we_X11_thrown : (Cond.selects RX11 yX11_thrown yX11_thrown) ∈ WG := WG_of (i := 988) (by decide +kernel) rfl
theorem wc_X11_thrown : (Cond.code yX11_thrown cX11_thrown 1 (some FieldType.int)) ∈ WG := WG_of (i := 989) (by decide +kernel) rfl
theorem wl_RL_73 : (Cond.classLink RL 73 RX11) ∈ WG := WG_of (i := 990) (by decide +kernel) rfl
theorem wz_RX11 : (Cond.instantiable RX11 55) ∈ WG := WG_of (i := 991) (by decide +kernel) rfl
theorem wm_RL_75 : (Cond.methodLink RL 75 yX11_init) ∈ WG := WG_of (i := 992) (by decide +kernel) rfl
theorem wi_X11_init : (Cond.instanceMethod yX11_init) ∈ WG := WG_of (i := 993) (by decide +kernel) rfl
theorem wc_X11_init : (Cond.code yX11_init cX11_init 5 (none : Option Jvm.ClassFile.FieldType)) ∈ WG := WG_of (i := 994) (by decide +kernel) rfl
theorem wm_RX11_7 : (Cond.methodLink RX11 7 objectInit) ∈ WG := WG_of (i := 995) (by decide +kernel) rfl
theorem wm_RX11_147 : (Cond.methodLink RX11 147 yX11_near) ∈ WG := WG_of (i := 996) (by decide +kernel) rfl
theorem wt_X11_near : (Cond.static yX11_near) ∈ WG := WG_of (i := 997) (by decide +kernel) rfl
theorem wc_X11_near : (Cond.code yX11_near cX11_near 3 (some FieldType.int)) ∈ WG := WG_of (i := 998) (by decide +kernel) rfl
theorem wm_RX11_163 : (Cond.methodLink RX11 163 yX11_rises) ∈ WG := WG_of (i := 999) (by decide +kernel) rfl
theorem wi_X11_rises : (Cond.instanceMethod yX11_rises) ∈ WG := WG_of (i := 1001) (by decide +kernel) rfl
theorem wc_X11_rises : (Cond.code yX11_rises cX11_rises 3 (none : Option Jvm.ClassFile.FieldType)) ∈ WG := WG_of (i := 1002) (by decide +kernel) rfl
theorem wf_RX11_1 : (Cond.fieldLink RX11 1 "OneTripModel" "thrown" "I") ∈ WG := WG_of (i := 1003) (by decide +kernel) rfl
theorem wf_RX11_151 : (Cond.fieldLink RX11 151 "OneTripModel" "f" "I") ∈ WG := WG_of (i := 1004) (by decide +kernel) rfl
theorem wf_RX11_154 : (Cond.fieldLink RX11 154 "OneTripModel" "sets" "I") ∈ WG := WG_of (i := 1005) (by decide +kernel) rfl
theorem wf_RX11_157 : (Cond.fieldLink RX11 157 "OneTripModel" "ways" "I") ∈ WG := WG_of (i := 1006) (by decide +kernel) rfl
theorem wf_RX11_160 : (Cond.fieldLink RX11 160 "OneTripModel" "batch" "I") ∈ WG := WG_of (i := 1007) (by decide +kernel) rfl
theorem wf_RX11_13 : (Cond.fieldLink RX11 13 "OneTripModel" "opClient" "[I") ∈ WG := WG_of (i := 1008) (by decide +kernel) rfl
theorem wf_RX11_17 : (Cond.fieldLink RX11 17 "OneTripModel" "opNumber" "[I") ∈ WG := WG_of (i := 1009) (by decide +kernel) rfl
theorem wf_RX11_20 : (Cond.fieldLink RX11 20 "OneTripModel" "opWhat" "[I") ∈ WG := WG_of (i := 1010) (by decide +kernel) rfl
theorem wf_RX11_23 : (Cond.fieldLink RX11 23 "OneTripModel" "opKey" "[I") ∈ WG := WG_of (i := 1011) (by decide +kernel) rfl
theorem wf_RX11_26 : (Cond.fieldLink RX11 26 "OneTripModel" "opV" "[I") ∈ WG := WG_of (i := 1012) (by decide +kernel) rfl
theorem wf_RX11_29 : (Cond.fieldLink RX11 29 "OneTripModel" "askedAt" "[I") ∈ WG := WG_of (i := 1013) (by decide +kernel) rfl
theorem wf_RX11_32 : (Cond.fieldLink RX11 32 "OneTripModel" "doneAt" "[I") ∈ WG := WG_of (i := 1014) (by decide +kernel) rfl
theorem wf_RX11_35 : (Cond.fieldLink RX11 35 "OneTripModel" "told" "[I") ∈ WG := WG_of (i := 1015) (by decide +kernel) rfl
theorem wf_RX11_251 : (Cond.fieldLink RX11 251 "OneTripModel" "ops" "I") ∈ WG := WG_of (i := 1016) (by decide +kernel) rfl
theorem wf_RX11_232 : (Cond.fieldLink RX11 232 "OneTripModel" "moment" "I") ∈ WG := WG_of (i := 1017) (by decide +kernel) rfl
theorem wf_RX11_235 : (Cond.fieldLink RX11 235 "OneTripModel" "done" "I") ∈ WG := WG_of (i := 1018) (by decide +kernel) rfl
theorem wf_RX11_38 : (Cond.fieldLink RX11 38 "OneTripModel" "latest" "[I") ∈ WG := WG_of (i := 1019) (by decide +kernel) rfl
theorem wf_RX11_41 : (Cond.fieldLink RX11 41 "OneTripModel" "knows" "[I") ∈ WG := WG_of (i := 1020) (by decide +kernel) rfl
theorem wf_RX11_44 : (Cond.fieldLink RX11 44 "OneTripModel" "accepts" "[I") ∈ WG := WG_of (i := 1021) (by decide +kernel) rfl
theorem wf_RX11_47 : (Cond.fieldLink RX11 47 "OneTripModel" "isAnswered" "[Z") ∈ WG := WG_of (i := 1022) (by decide +kernel) rfl
theorem wf_RX11_51 : (Cond.fieldLink RX11 51 "OneTripModel" "answer" "[I") ∈ WG := WG_of (i := 1023) (by decide +kernel) rfl
theorem wf_RX11_54 : (Cond.fieldLink RX11 54 "OneTripModel" "quick" "[I") ∈ WG := WG_of (i := 1024) (by decide +kernel) rfl
theorem wf_RX11_57 : (Cond.fieldLink RX11 57 "OneTripModel" "logOp" "[I") ∈ WG := WG_of (i := 1025) (by decide +kernel) rfl
theorem wf_RX11_60 : (Cond.fieldLink RX11 60 "OneTripModel" "logAnswer" "[I") ∈ WG := WG_of (i := 1026) (by decide +kernel) rfl
theorem wf_RX11_63 : (Cond.fieldLink RX11 63 "OneTripModel" "isLate" "[Z") ∈ WG := WG_of (i := 1027) (by decide +kernel) rfl
theorem wf_RX11_66 : (Cond.fieldLink RX11 66 "OneTripModel" "isNoted" "[Z") ∈ WG := WG_of (i := 1028) (by decide +kernel) rfl
theorem wf_RX11_69 : (Cond.fieldLink RX11 69 "OneTripModel" "logMany" "[I") ∈ WG := WG_of (i := 1029) (by decide +kernel) rfl
theorem wf_RX11_72 : (Cond.fieldLink RX11 72 "OneTripModel" "begin" "[I") ∈ WG := WG_of (i := 1030) (by decide +kernel) rfl
theorem wf_RX11_75 : (Cond.fieldLink RX11 75 "OneTripModel" "synced" "[I") ∈ WG := WG_of (i := 1031) (by decide +kernel) rfl
theorem wf_RX11_78 : (Cond.fieldLink RX11 78 "OneTripModel" "syncs" "[I") ∈ WG := WG_of (i := 1032) (by decide +kernel) rfl
theorem wf_RX11_81 : (Cond.fieldLink RX11 81 "OneTripModel" "lives" "[Z") ∈ WG := WG_of (i := 1033) (by decide +kernel) rfl
theorem wf_RX11_84 : (Cond.fieldLink RX11 84 "OneTripModel" "settled" "[Z") ∈ WG := WG_of (i := 1034) (by decide +kernel) rfl
theorem wf_RX11_87 : (Cond.fieldLink RX11 87 "OneTripModel" "known" "[I") ∈ WG := WG_of (i := 1035) (by decide +kernel) rfl
theorem wf_RX11_90 : (Cond.fieldLink RX11 90 "OneTripModel" "waitOp" "[I") ∈ WG := WG_of (i := 1036) (by decide +kernel) rfl
theorem wf_RX11_93 : (Cond.fieldLink RX11 93 "OneTripModel" "waitPlace" "[I") ∈ WG := WG_of (i := 1037) (by decide +kernel) rfl
theorem wf_RX11_96 : (Cond.fieldLink RX11 96 "OneTripModel" "waitCount" "[I") ∈ WG := WG_of (i := 1038) (by decide +kernel) rfl
theorem wf_RX11_99 : (Cond.fieldLink RX11 99 "OneTripModel" "waitBits" "[I") ∈ WG := WG_of (i := 1039) (by decide +kernel) rfl
theorem wf_RX11_102 : (Cond.fieldLink RX11 102 "OneTripModel" "waits" "[I") ∈ WG := WG_of (i := 1040) (by decide +kernel) rfl
theorem wf_RX11_167 : (Cond.fieldLink RX11 167 "OneTripModel" "epochs" "I") ∈ WG := WG_of (i := 1041) (by decide +kernel) rfl
theorem wf_RX11_105 : (Cond.fieldLink RX11 105 "OneTripModel" "backupEpoch" "[I") ∈ WG := WG_of (i := 1042) (by decide +kernel) rfl
theorem wf_RX11_108 : (Cond.fieldLink RX11 108 "OneTripModel" "backupMany" "[I") ∈ WG := WG_of (i := 1043) (by decide +kernel) rfl
theorem wf_RX11_111 : (Cond.fieldLink RX11 111 "OneTripModel" "witnessEpoch" "[I") ∈ WG := WG_of (i := 1044) (by decide +kernel) rfl
theorem wf_RX11_114 : (Cond.fieldLink RX11 114 "OneTripModel" "isFrozen" "[Z") ∈ WG := WG_of (i := 1045) (by decide +kernel) rfl
theorem wf_RX11_117 : (Cond.fieldLink RX11 117 "OneTripModel" "records" "[I") ∈ WG := WG_of (i := 1046) (by decide +kernel) rfl
theorem wf_RX11_120 : (Cond.fieldLink RX11 120 "OneTripModel" "recordMany" "[I") ∈ WG := WG_of (i := 1047) (by decide +kernel) rfl
theorem wf_RX11_123 : (Cond.fieldLink RX11 123 "OneTripModel" "sort" "[I") ∈ WG := WG_of (i := 1048) (by decide +kernel) rfl
theorem wf_RX11_126 : (Cond.fieldLink RX11 126 "OneTripModel" "ofEpoch" "[I") ∈ WG := WG_of (i := 1049) (by decide +kernel) rfl
theorem wf_RX11_129 : (Cond.fieldLink RX11 129 "OneTripModel" "who" "[I") ∈ WG := WG_of (i := 1050) (by decide +kernel) rfl
theorem wf_RX11_132 : (Cond.fieldLink RX11 132 "OneTripModel" "ofOp" "[I") ∈ WG := WG_of (i := 1051) (by decide +kernel) rfl
theorem wf_RX11_135 : (Cond.fieldLink RX11 135 "OneTripModel" "number" "[I") ∈ WG := WG_of (i := 1052) (by decide +kernel) rfl
theorem wf_RX11_138 : (Cond.fieldLink RX11 138 "OneTripModel" "count" "[I") ∈ WG := WG_of (i := 1053) (by decide +kernel) rfl
theorem wf_RX11_141 : (Cond.fieldLink RX11 141 "OneTripModel" "value" "[I") ∈ WG := WG_of (i := 1054) (by decide +kernel) rfl
theorem wf_RX11_144 : (Cond.fieldLink RX11 144 "OneTripModel" "safe" "[Z") ∈ WG := WG_of (i := 1055) (by decide +kernel) rfl
theorem wf_RX11_170 : (Cond.fieldLink RX11 170 "OneTripModel" "letters" "I") ∈ WG := WG_of (i := 1056) (by decide +kernel) rfl
theorem wf_RX11_173 : (Cond.fieldLink RX11 173 "OneTripModel" "full" "I") ∈ WG := WG_of (i := 1057) (by decide +kernel) rfl
theorem wo_1169 : (Cond.arrayClass FieldType.boolean) ∈ WG := WG_of (i := 1169) (by decide +kernel) rfl
theorem wm_RL_79 : (Cond.methodLink RL 79 yX11_ask) ∈ WG := WG_of (i := 1170) (by decide +kernel) rfl
theorem wi_X11_ask : (Cond.instanceMethod yX11_ask) ∈ WG := WG_of (i := 1171) (by decide +kernel) rfl
theorem we_X11_ask : (Cond.selects RX11 yX11_ask yX11_ask) ∈ WG := WG_of (i := 1172) (by decide +kernel) rfl
theorem wc_X11_ask : (Cond.code yX11_ask cX11_ask 6 (some FieldType.int)) ∈ WG := WG_of (i := 1173) (by decide +kernel) rfl
theorem wm_RX11_244 : (Cond.methodLink RX11 244 yX11_noClient) ∈ WG := WG_of (i := 1174) (by decide +kernel) rfl
theorem wt_X11_noClient : (Cond.static yX11_noClient) ∈ WG := WG_of (i := 1175) (by decide +kernel) rfl
theorem wc_X11_noClient : (Cond.code yX11_noClient cX11_noClient 1 (some FieldType.boolean)) ∈ WG := WG_of (i := 1176) (by decide +kernel) rfl
theorem wm_RX11_247 : (Cond.methodLink RX11 247 yX11_throwsIf) ∈ WG := WG_of (i := 1177) (by decide +kernel) rfl
theorem wi_X11_throwsIf : (Cond.instanceMethod yX11_throwsIf) ∈ WG := WG_of (i := 1179) (by decide +kernel) rfl
theorem wc_X11_throwsIf : (Cond.code yX11_throwsIf cX11_throwsIf 3 (some FieldType.boolean)) ∈ WG := WG_of (i := 1180) (by decide +kernel) rfl
theorem wm_RX11_238 : (Cond.methodLink RX11 238 yX11_isOpen) ∈ WG := WG_of (i := 1181) (by decide +kernel) rfl
theorem wi_X11_isOpen : (Cond.instanceMethod yX11_isOpen) ∈ WG := WG_of (i := 1183) (by decide +kernel) rfl
theorem wc_X11_isOpen : (Cond.code yX11_isOpen cX11_isOpen 2 (some FieldType.boolean)) ∈ WG := WG_of (i := 1184) (by decide +kernel) rfl
theorem wm_RX11_254 : (Cond.methodLink RX11 254 yX11_begins) ∈ WG := WG_of (i := 1185) (by decide +kernel) rfl
theorem wi_X11_begins : (Cond.instanceMethod yX11_begins) ∈ WG := WG_of (i := 1187) (by decide +kernel) rfl
theorem wc_X11_begins : (Cond.code yX11_begins cX11_begins 4 (none : Option Jvm.ClassFile.FieldType)) ∈ WG := WG_of (i := 1188) (by decide +kernel) rfl
theorem wm_RX11_228 : (Cond.methodLink RX11 228 yX11_sendOp) ∈ WG := WG_of (i := 1189) (by decide +kernel) rfl
theorem wi_X11_sendOp : (Cond.instanceMethod yX11_sendOp) ∈ WG := WG_of (i := 1191) (by decide +kernel) rfl
theorem wc_X11_sendOp : (Cond.code yX11_sendOp cX11_sendOp 5 (none : Option Jvm.ClassFile.FieldType)) ∈ WG := WG_of (i := 1192) (by decide +kernel) rfl
theorem wm_RX11_176 : (Cond.methodLink RX11 176 yX11_send) ∈ WG := WG_of (i := 1193) (by decide +kernel) rfl
theorem wi_X11_send : (Cond.instanceMethod yX11_send) ∈ WG := WG_of (i := 1195) (by decide +kernel) rfl
theorem wc_X11_send : (Cond.code yX11_send cX11_send 9 (none : Option Jvm.ClassFile.FieldType)) ∈ WG := WG_of (i := 1196) (by decide +kernel) rfl
theorem wm_RX11_197 : (Cond.methodLink RX11 197 yX11_isUpdate) ∈ WG := WG_of (i := 1197) (by decide +kernel) rfl
theorem wt_X11_isUpdate : (Cond.static yX11_isUpdate) ∈ WG := WG_of (i := 1198) (by decide +kernel) rfl
theorem wc_X11_isUpdate : (Cond.code yX11_isUpdate cX11_isUpdate 1 (some FieldType.boolean)) ∈ WG := WG_of (i := 1199) (by decide +kernel) rfl
theorem wm_RL_87 : (Cond.methodLink RL 87 yX11_retry) ∈ WG := WG_of (i := 1200) (by decide +kernel) rfl
theorem wi_X11_retry : (Cond.instanceMethod yX11_retry) ∈ WG := WG_of (i := 1201) (by decide +kernel) rfl
theorem we_X11_retry : (Cond.selects RX11 yX11_retry yX11_retry) ∈ WG := WG_of (i := 1202) (by decide +kernel) rfl
theorem wc_X11_retry : (Cond.code yX11_retry cX11_retry 2 (some FieldType.boolean)) ∈ WG := WG_of (i := 1203) (by decide +kernel) rfl
theorem wm_RL_90 : (Cond.methodLink RL 90 yX11_learn) ∈ WG := WG_of (i := 1204) (by decide +kernel) rfl
theorem wi_X11_learn : (Cond.instanceMethod yX11_learn) ∈ WG := WG_of (i := 1205) (by decide +kernel) rfl
theorem we_X11_learn : (Cond.selects RX11 yX11_learn yX11_learn) ∈ WG := WG_of (i := 1206) (by decide +kernel) rfl
theorem wc_X11_learn : (Cond.code yX11_learn cX11_learn 2 (some FieldType.int)) ∈ WG := WG_of (i := 1207) (by decide +kernel) rfl
theorem wm_RL_93 : (Cond.methodLink RL 93 yX11_deliver) ∈ WG := WG_of (i := 1208) (by decide +kernel) rfl
theorem wi_X11_deliver : (Cond.instanceMethod yX11_deliver) ∈ WG := WG_of (i := 1209) (by decide +kernel) rfl
theorem we_X11_deliver : (Cond.selects RX11 yX11_deliver yX11_deliver) ∈ WG := WG_of (i := 1210) (by decide +kernel) rfl
theorem wc_X11_deliver : (Cond.code yX11_deliver cX11_deliver 10 (some FieldType.int)) ∈ WG := WG_of (i := 1211) (by decide +kernel) rfl
theorem wm_RX11_257 : (Cond.methodLink RX11 257 yX11_noLetter) ∈ WG := WG_of (i := 1212) (by decide +kernel) rfl
theorem wi_X11_noLetter : (Cond.instanceMethod yX11_noLetter) ∈ WG := WG_of (i := 1214) (by decide +kernel) rfl
theorem wc_X11_noLetter : (Cond.code yX11_noLetter cX11_noLetter 2 (some FieldType.boolean)) ∈ WG := WG_of (i := 1215) (by decide +kernel) rfl
theorem wm_RX11_260 : (Cond.methodLink RX11 260 yX11_takes) ∈ WG := WG_of (i := 1216) (by decide +kernel) rfl
theorem wi_X11_takes : (Cond.instanceMethod yX11_takes) ∈ WG := WG_of (i := 1218) (by decide +kernel) rfl
theorem wc_X11_takes : (Cond.code yX11_takes cX11_takes 3 (none : Option Jvm.ClassFile.FieldType)) ∈ WG := WG_of (i := 1219) (by decide +kernel) rfl
theorem wm_RX11_263 : (Cond.methodLink RX11 263 yX11_reads) ∈ WG := WG_of (i := 1220) (by decide +kernel) rfl
theorem wi_X11_reads : (Cond.instanceMethod yX11_reads) ∈ WG := WG_of (i := 1222) (by decide +kernel) rfl
theorem wc_X11_reads : (Cond.code yX11_reads cX11_reads 5 (none : Option Jvm.ClassFile.FieldType)) ∈ WG := WG_of (i := 1223) (by decide +kernel) rfl
theorem wm_RX11_183 : (Cond.methodLink RX11 183 yX11_place) ∈ WG := WG_of (i := 1224) (by decide +kernel) rfl
theorem wi_X11_place : (Cond.instanceMethod yX11_place) ∈ WG := WG_of (i := 1226) (by decide +kernel) rfl
theorem wc_X11_place : (Cond.code yX11_place cX11_place 5 (some FieldType.int)) ∈ WG := WG_of (i := 1227) (by decide +kernel) rfl
theorem wm_RX11_187 : (Cond.methodLink RX11 187 yX11_answers) ∈ WG := WG_of (i := 1228) (by decide +kernel) rfl
theorem wi_X11_answers : (Cond.instanceMethod yX11_answers) ∈ WG := WG_of (i := 1230) (by decide +kernel) rfl
theorem wc_X11_answers : (Cond.code yX11_answers cX11_answers 5 (none : Option Jvm.ClassFile.FieldType)) ∈ WG := WG_of (i := 1231) (by decide +kernel) rfl
theorem wm_RX11_191 : (Cond.methodLink RX11 191 yX11_syncs) ∈ WG := WG_of (i := 1232) (by decide +kernel) rfl
theorem wi_X11_syncs : (Cond.instanceMethod yX11_syncs) ∈ WG := WG_of (i := 1234) (by decide +kernel) rfl
theorem wc_X11_syncs : (Cond.code yX11_syncs cX11_syncs 3 (none : Option Jvm.ClassFile.FieldType)) ∈ WG := WG_of (i := 1235) (by decide +kernel) rfl
theorem wm_RX11_193 : (Cond.methodLink RX11 193 yX11_hasGreater) ∈ WG := WG_of (i := 1236) (by decide +kernel) rfl
theorem wi_X11_hasGreater : (Cond.instanceMethod yX11_hasGreater) ∈ WG := WG_of (i := 1238) (by decide +kernel) rfl
theorem wc_X11_hasGreater : (Cond.code yX11_hasGreater cX11_hasGreater 5 (some FieldType.boolean)) ∈ WG := WG_of (i := 1239) (by decide +kernel) rfl
theorem wm_RX11_201 : (Cond.methodLink RX11 201 yX11_waitsFor) ∈ WG := WG_of (i := 1240) (by decide +kernel) rfl
theorem wi_X11_waitsFor : (Cond.instanceMethod yX11_waitsFor) ∈ WG := WG_of (i := 1242) (by decide +kernel) rfl
theorem wc_X11_waitsFor : (Cond.code yX11_waitsFor cX11_waitsFor 5 (none : Option Jvm.ClassFile.FieldType)) ∈ WG := WG_of (i := 1243) (by decide +kernel) rfl
theorem wm_RX11_205 : (Cond.methodLink RX11 205 yX11_isKeyBehind) ∈ WG := WG_of (i := 1244) (by decide +kernel) rfl
theorem wi_X11_isKeyBehind : (Cond.instanceMethod yX11_isKeyBehind) ∈ WG := WG_of (i := 1246) (by decide +kernel) rfl
theorem wc_X11_isKeyBehind : (Cond.code yX11_isKeyBehind cX11_isKeyBehind 5 (some FieldType.boolean)) ∈ WG := WG_of (i := 1247) (by decide +kernel) rfl
theorem wm_RX11_208 : (Cond.methodLink RX11 208 yX11_appends) ∈ WG := WG_of (i := 1248) (by decide +kernel) rfl
theorem wi_X11_appends : (Cond.instanceMethod yX11_appends) ∈ WG := WG_of (i := 1250) (by decide +kernel) rfl
theorem wc_X11_appends : (Cond.code yX11_appends cX11_appends 6 (none : Option Jvm.ClassFile.FieldType)) ∈ WG := WG_of (i := 1251) (by decide +kernel) rfl
theorem wm_RX11_180 : (Cond.methodLink RX11 180 yX11_valueAt) ∈ WG := WG_of (i := 1252) (by decide +kernel) rfl
theorem wi_X11_valueAt : (Cond.instanceMethod yX11_valueAt) ∈ WG := WG_of (i := 1254) (by decide +kernel) rfl
theorem wc_X11_valueAt : (Cond.code yX11_valueAt cX11_valueAt 7 (some FieldType.int)) ∈ WG := WG_of (i := 1255) (by decide +kernel) rfl
theorem wm_RX11_266 : (Cond.methodLink RX11 266 yX11_readsSyncNow) ∈ WG := WG_of (i := 1256) (by decide +kernel) rfl
theorem wi_X11_readsSyncNow : (Cond.instanceMethod yX11_readsSyncNow) ∈ WG := WG_of (i := 1258) (by decide +kernel) rfl
theorem wc_X11_readsSyncNow : (Cond.code yX11_readsSyncNow cX11_readsSyncNow 4 (none : Option Jvm.ClassFile.FieldType)) ∈ WG := WG_of (i := 1259) (by decide +kernel) rfl
theorem wm_RX11_269 : (Cond.methodLink RX11 269 yX11_readsAck) ∈ WG := WG_of (i := 1260) (by decide +kernel) rfl
theorem wi_X11_readsAck : (Cond.instanceMethod yX11_readsAck) ∈ WG := WG_of (i := 1262) (by decide +kernel) rfl
theorem wc_X11_readsAck : (Cond.code yX11_readsAck cX11_readsAck 9 (none : Option Jvm.ClassFile.FieldType)) ∈ WG := WG_of (i := 1263) (by decide +kernel) rfl
theorem wm_RX11_212 : (Cond.methodLink RX11 212 yX11_leastKnown) ∈ WG := WG_of (i := 1264) (by decide +kernel) rfl
theorem wi_X11_leastKnown : (Cond.instanceMethod yX11_leastKnown) ∈ WG := WG_of (i := 1266) (by decide +kernel) rfl
theorem wc_X11_leastKnown : (Cond.code yX11_leastKnown cX11_leastKnown 4 (some FieldType.int)) ∈ WG := WG_of (i := 1267) (by decide +kernel) rfl
theorem wm_RX11_216 : (Cond.methodLink RX11 216 yX11_resets) ∈ WG := WG_of (i := 1268) (by decide +kernel) rfl
theorem wi_X11_resets : (Cond.instanceMethod yX11_resets) ∈ WG := WG_of (i := 1270) (by decide +kernel) rfl
theorem wc_X11_resets : (Cond.code yX11_resets cX11_resets 3 (none : Option Jvm.ClassFile.FieldType)) ∈ WG := WG_of (i := 1271) (by decide +kernel) rfl
theorem wm_RX11_219 : (Cond.methodLink RX11 219 yX11_answersGets) ∈ WG := WG_of (i := 1272) (by decide +kernel) rfl
theorem wi_X11_answersGets : (Cond.instanceMethod yX11_answersGets) ∈ WG := WG_of (i := 1274) (by decide +kernel) rfl
theorem wc_X11_answersGets : (Cond.code yX11_answersGets cX11_answersGets 6 (none : Option Jvm.ClassFile.FieldType)) ∈ WG := WG_of (i := 1275) (by decide +kernel) rfl
theorem wm_RX11_272 : (Cond.methodLink RX11 272 yX11_readsSync) ∈ WG := WG_of (i := 1276) (by decide +kernel) rfl
theorem wi_X11_readsSync : (Cond.instanceMethod yX11_readsSync) ∈ WG := WG_of (i := 1278) (by decide +kernel) rfl
theorem wc_X11_readsSync : (Cond.code yX11_readsSync cX11_readsSync 5 (none : Option Jvm.ClassFile.FieldType)) ∈ WG := WG_of (i := 1279) (by decide +kernel) rfl
theorem wm_RX11_275 : (Cond.methodLink RX11 275 yX11_readsRecord) ∈ WG := WG_of (i := 1280) (by decide +kernel) rfl
theorem wi_X11_readsRecord : (Cond.instanceMethod yX11_readsRecord) ∈ WG := WG_of (i := 1282) (by decide +kernel) rfl
theorem wc_X11_readsRecord : (Cond.code yX11_readsRecord cX11_readsRecord 5 (none : Option Jvm.ClassFile.FieldType)) ∈ WG := WG_of (i := 1283) (by decide +kernel) rfl
theorem wm_RX11_222 : (Cond.methodLink RX11 222 yX11_holds) ∈ WG := WG_of (i := 1284) (by decide +kernel) rfl
theorem wi_X11_holds : (Cond.instanceMethod yX11_holds) ∈ WG := WG_of (i := 1286) (by decide +kernel) rfl
theorem wc_X11_holds : (Cond.code yX11_holds cX11_holds 5 (some FieldType.boolean)) ∈ WG := WG_of (i := 1287) (by decide +kernel) rfl
theorem wm_RX11_225 : (Cond.methodLink RX11 225 yX11_hasRoom) ∈ WG := WG_of (i := 1288) (by decide +kernel) rfl
theorem wi_X11_hasRoom : (Cond.instanceMethod yX11_hasRoom) ∈ WG := WG_of (i := 1290) (by decide +kernel) rfl
theorem wc_X11_hasRoom : (Cond.code yX11_hasRoom cX11_hasRoom 7 (some FieldType.boolean)) ∈ WG := WG_of (i := 1291) (by decide +kernel) rfl
theorem wm_RX11_279 : (Cond.methodLink RX11 279 yX11_readsGc) ∈ WG := WG_of (i := 1292) (by decide +kernel) rfl
theorem wi_X11_readsGc : (Cond.instanceMethod yX11_readsGc) ∈ WG := WG_of (i := 1294) (by decide +kernel) rfl
theorem wc_X11_readsGc : (Cond.code yX11_readsGc cX11_readsGc 8 (none : Option Jvm.ClassFile.FieldType)) ∈ WG := WG_of (i := 1295) (by decide +kernel) rfl
theorem wm_RX11_282 : (Cond.methodLink RX11 282 yX11_readsReset) ∈ WG := WG_of (i := 1296) (by decide +kernel) rfl
theorem wi_X11_readsReset : (Cond.instanceMethod yX11_readsReset) ∈ WG := WG_of (i := 1298) (by decide +kernel) rfl
theorem wc_X11_readsReset : (Cond.code yX11_readsReset cX11_readsReset 3 (none : Option Jvm.ClassFile.FieldType)) ∈ WG := WG_of (i := 1299) (by decide +kernel) rfl
theorem wm_RX11_285 : (Cond.methodLink RX11 285 yX11_readsClient) ∈ WG := WG_of (i := 1300) (by decide +kernel) rfl
theorem wi_X11_readsClient : (Cond.instanceMethod yX11_readsClient) ∈ WG := WG_of (i := 1302) (by decide +kernel) rfl
theorem wc_X11_readsClient : (Cond.code yX11_readsClient cX11_readsClient 8 (none : Option Jvm.ClassFile.FieldType)) ∈ WG := WG_of (i := 1303) (by decide +kernel) rfl
theorem wm_RX11_241 : (Cond.methodLink RX11 241 yX11_ends) ∈ WG := WG_of (i := 1304) (by decide +kernel) rfl
theorem wi_X11_ends : (Cond.instanceMethod yX11_ends) ∈ WG := WG_of (i := 1306) (by decide +kernel) rfl
theorem wc_X11_ends : (Cond.code yX11_ends cX11_ends 3 (none : Option Jvm.ClassFile.FieldType)) ∈ WG := WG_of (i := 1307) (by decide +kernel) rfl
theorem wm_RL_96 : (Cond.methodLink RL 96 yX11_lose) ∈ WG := WG_of (i := 1308) (by decide +kernel) rfl
theorem wi_X11_lose : (Cond.instanceMethod yX11_lose) ∈ WG := WG_of (i := 1309) (by decide +kernel) rfl
theorem we_X11_lose : (Cond.selects RX11 yX11_lose yX11_lose) ∈ WG := WG_of (i := 1310) (by decide +kernel) rfl
theorem wc_X11_lose : (Cond.code yX11_lose cX11_lose 2 (some FieldType.int)) ∈ WG := WG_of (i := 1311) (by decide +kernel) rfl
theorem wm_RL_99 : (Cond.methodLink RL 99 yX11_twice) ∈ WG := WG_of (i := 1312) (by decide +kernel) rfl
theorem wi_X11_twice : (Cond.instanceMethod yX11_twice) ∈ WG := WG_of (i := 1313) (by decide +kernel) rfl
theorem we_X11_twice : (Cond.selects RX11 yX11_twice yX11_twice) ∈ WG := WG_of (i := 1314) (by decide +kernel) rfl
theorem wc_X11_twice : (Cond.code yX11_twice cX11_twice 2 (some FieldType.int)) ∈ WG := WG_of (i := 1315) (by decide +kernel) rfl
theorem wm_RL_102 : (Cond.methodLink RL 102 yX11_sync) ∈ WG := WG_of (i := 1316) (by decide +kernel) rfl
theorem wi_X11_sync : (Cond.instanceMethod yX11_sync) ∈ WG := WG_of (i := 1317) (by decide +kernel) rfl
theorem we_X11_sync : (Cond.selects RX11 yX11_sync yX11_sync) ∈ WG := WG_of (i := 1318) (by decide +kernel) rfl
theorem wc_X11_sync : (Cond.code yX11_sync cX11_sync 2 (some FieldType.boolean)) ∈ WG := WG_of (i := 1319) (by decide +kernel) rfl
theorem wm_RX11_289 : (Cond.methodLink RX11 289 yX11_noEpoch) ∈ WG := WG_of (i := 1320) (by decide +kernel) rfl
theorem wi_X11_noEpoch : (Cond.instanceMethod yX11_noEpoch) ∈ WG := WG_of (i := 1322) (by decide +kernel) rfl
theorem wc_X11_noEpoch : (Cond.code yX11_noEpoch cX11_noEpoch 2 (some FieldType.boolean)) ∈ WG := WG_of (i := 1323) (by decide +kernel) rfl
theorem wm_RL_105 : (Cond.methodLink RL 105 yX11_crash) ∈ WG := WG_of (i := 1324) (by decide +kernel) rfl
theorem wi_X11_crash : (Cond.instanceMethod yX11_crash) ∈ WG := WG_of (i := 1325) (by decide +kernel) rfl
theorem we_X11_crash : (Cond.selects RX11 yX11_crash yX11_crash) ∈ WG := WG_of (i := 1326) (by decide +kernel) rfl
theorem wc_X11_crash : (Cond.code yX11_crash cX11_crash 3 (some FieldType.boolean)) ∈ WG := WG_of (i := 1327) (by decide +kernel) rfl
theorem wm_RL_109 : (Cond.methodLink RL 109 yX11_decide) ∈ WG := WG_of (i := 1328) (by decide +kernel) rfl
theorem wi_X11_decide : (Cond.instanceMethod yX11_decide) ∈ WG := WG_of (i := 1329) (by decide +kernel) rfl
theorem we_X11_decide : (Cond.selects RX11 yX11_decide yX11_decide) ∈ WG := WG_of (i := 1330) (by decide +kernel) rfl
theorem wc_X11_decide : (Cond.code yX11_decide cX11_decide 5 (some FieldType.int)) ∈ WG := WG_of (i := 1331) (by decide +kernel) rfl
theorem wm_RX11_292 : (Cond.methodLink RX11 292 yX11_replays) ∈ WG := WG_of (i := 1332) (by decide +kernel) rfl
theorem wi_X11_replays : (Cond.instanceMethod yX11_replays) ∈ WG := WG_of (i := 1334) (by decide +kernel) rfl
theorem wc_X11_replays : (Cond.code yX11_replays cX11_replays 5 (none : Option Jvm.ClassFile.FieldType)) ∈ WG := WG_of (i := 1335) (by decide +kernel) rfl
theorem wm_RL_131 : (Cond.methodLink RL 131 yX11_audit) ∈ WG := WG_of (i := 1336) (by decide +kernel) rfl
theorem wi_X11_audit : (Cond.instanceMethod yX11_audit) ∈ WG := WG_of (i := 1337) (by decide +kernel) rfl
theorem we_X11_audit : (Cond.selects RX11 yX11_audit yX11_audit) ∈ WG := WG_of (i := 1338) (by decide +kernel) rfl
theorem wc_X11_audit : (Cond.code yX11_audit cX11_audit 4 (some FieldType.int)) ∈ WG := WG_of (i := 1339) (by decide +kernel) rfl
theorem wm_RX11_295 : (Cond.methodLink RX11 295 yX11_isOnce) ∈ WG := WG_of (i := 1340) (by decide +kernel) rfl
theorem wi_X11_isOnce : (Cond.instanceMethod yX11_isOnce) ∈ WG := WG_of (i := 1342) (by decide +kernel) rfl
theorem wc_X11_isOnce : (Cond.code yX11_isOnce cX11_isOnce 4 (some FieldType.boolean)) ∈ WG := WG_of (i := 1343) (by decide +kernel) rfl
theorem wm_RX11_298 : (Cond.methodLink RX11 298 yX11_areInOrder) ∈ WG := WG_of (i := 1344) (by decide +kernel) rfl
theorem wi_X11_areInOrder : (Cond.instanceMethod yX11_areInOrder) ∈ WG := WG_of (i := 1346) (by decide +kernel) rfl
theorem wc_X11_areInOrder : (Cond.code yX11_areInOrder cX11_areInOrder 7 (some FieldType.boolean)) ∈ WG := WG_of (i := 1347) (by decide +kernel) rfl
theorem wm_RX11_301 : (Cond.methodLink RX11 301 yX11_isSeen) ∈ WG := WG_of (i := 1348) (by decide +kernel) rfl
theorem wi_X11_isSeen : (Cond.instanceMethod yX11_isSeen) ∈ WG := WG_of (i := 1350) (by decide +kernel) rfl
theorem wc_X11_isSeen : (Cond.code yX11_isSeen cX11_isSeen 7 (some FieldType.boolean)) ∈ WG := WG_of (i := 1351) (by decide +kernel) rfl
theorem wm_RL_112 : (Cond.methodLink RL 112 yX11_letter) ∈ WG := WG_of (i := 1352) (by decide +kernel) rfl
theorem wi_X11_letter : (Cond.instanceMethod yX11_letter) ∈ WG := WG_of (i := 1353) (by decide +kernel) rfl
theorem we_X11_letter : (Cond.selects RX11 yX11_letter yX11_letter) ∈ WG := WG_of (i := 1354) (by decide +kernel) rfl
theorem wc_X11_letter : (Cond.code yX11_letter cX11_letter 3 (some FieldType.int)) ∈ WG := WG_of (i := 1355) (by decide +kernel) rfl
theorem wm_RL_115 : (Cond.methodLink RL 115 yX11_client) ∈ WG := WG_of (i := 1356) (by decide +kernel) rfl
theorem wi_X11_client : (Cond.instanceMethod yX11_client) ∈ WG := WG_of (i := 1357) (by decide +kernel) rfl
theorem we_X11_client : (Cond.selects RX11 yX11_client yX11_client) ∈ WG := WG_of (i := 1358) (by decide +kernel) rfl
theorem wc_X11_client : (Cond.code yX11_client cX11_client 4 (some FieldType.int)) ∈ WG := WG_of (i := 1359) (by decide +kernel) rfl
theorem wm_RX11_304 : (Cond.methodLink RX11 304 yX11_one) ∈ WG := WG_of (i := 1360) (by decide +kernel) rfl
theorem wt_X11_one : (Cond.static yX11_one) ∈ WG := WG_of (i := 1361) (by decide +kernel) rfl
theorem wc_X11_one : (Cond.code yX11_one cX11_one 1 (some FieldType.int)) ∈ WG := WG_of (i := 1362) (by decide +kernel) rfl
theorem wm_RX11_308 : (Cond.methodLink RX11 308 yJ6_bitCount_0f7a4) ∈ WG := WG_of (i := 1363) (by decide +kernel) rfl
theorem wm_RL_118 : (Cond.methodLink RL 118 yX11_master) ∈ WG := WG_of (i := 1364) (by decide +kernel) rfl
theorem wi_X11_master : (Cond.instanceMethod yX11_master) ∈ WG := WG_of (i := 1365) (by decide +kernel) rfl
theorem we_X11_master : (Cond.selects RX11 yX11_master yX11_master) ∈ WG := WG_of (i := 1366) (by decide +kernel) rfl
theorem wc_X11_master : (Cond.code yX11_master cX11_master 3 (some FieldType.int)) ∈ WG := WG_of (i := 1367) (by decide +kernel) rfl
theorem wm_RL_121 : (Cond.methodLink RL 121 yX11_value) ∈ WG := WG_of (i := 1368) (by decide +kernel) rfl
theorem wi_X11_value : (Cond.instanceMethod yX11_value) ∈ WG := WG_of (i := 1369) (by decide +kernel) rfl
theorem we_X11_value : (Cond.selects RX11 yX11_value yX11_value) ∈ WG := WG_of (i := 1370) (by decide +kernel) rfl
theorem wc_X11_value : (Cond.code yX11_value cX11_value 3 (some FieldType.int)) ∈ WG := WG_of (i := 1371) (by decide +kernel) rfl
theorem wm_RL_124 : (Cond.methodLink RL 124 yX11_backup) ∈ WG := WG_of (i := 1372) (by decide +kernel) rfl
theorem wi_X11_backup : (Cond.instanceMethod yX11_backup) ∈ WG := WG_of (i := 1373) (by decide +kernel) rfl
theorem we_X11_backup : (Cond.selects RX11 yX11_backup yX11_backup) ∈ WG := WG_of (i := 1374) (by decide +kernel) rfl
theorem wc_X11_backup : (Cond.code yX11_backup cX11_backup 3 (some FieldType.int)) ∈ WG := WG_of (i := 1375) (by decide +kernel) rfl
theorem wm_RL_127 : (Cond.methodLink RL 127 yX11_witness) ∈ WG := WG_of (i := 1376) (by decide +kernel) rfl
theorem wi_X11_witness : (Cond.instanceMethod yX11_witness) ∈ WG := WG_of (i := 1377) (by decide +kernel) rfl
theorem we_X11_witness : (Cond.selects RX11 yX11_witness yX11_witness) ∈ WG := WG_of (i := 1378) (by decide +kernel) rfl
theorem wc_X11_witness : (Cond.code yX11_witness cX11_witness 5 (some FieldType.int)) ∈ WG := WG_of (i := 1379) (by decide +kernel) rfl
theorem wm_RL_135 : (Cond.methodLink RL 135 yX11_count) ∈ WG := WG_of (i := 1380) (by decide +kernel) rfl
theorem wi_X11_count : (Cond.instanceMethod yX11_count) ∈ WG := WG_of (i := 1381) (by decide +kernel) rfl
theorem we_X11_count : (Cond.selects RX11 yX11_count yX11_count) ∈ WG := WG_of (i := 1382) (by decide +kernel) rfl
theorem wc_X11_count : (Cond.code yX11_count cX11_count 2 (some FieldType.int)) ∈ WG := WG_of (i := 1383) (by decide +kernel) rfl
theorem wo_1384 : (Cond.arrayClass FieldType.long) ∈ WG := WG_of (i := 1384) (by decide +kernel) rfl
theorem we__Ljava_lang_Object__Object_getClass : (Cond.selects "[Ljava/lang/Object;" ⟨"java/lang/Object", "getClass", "()Ljava/lang/Class;"⟩ ⟨"java/lang/Object", "getClass", "()Ljava/lang/Class;"⟩) ∈ WG := WG_of (i := 1403) (by decide +kernel) rfl
