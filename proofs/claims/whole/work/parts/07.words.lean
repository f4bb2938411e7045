theorem lk_acint : Cond.arrayClass .int ∈ gTB := gTm (i := 98) (by decide +kernel) rfl
theorem lk_mRJ7_304 : Cond.methodLink RJ7 304 Lib.Math.min.name ∈ gTB := gTm (i := 405) (by decide +kernel) rfl
theorem lk_s_math_min : Cond.static Lib.Math.min.name ∈ gTB := gTm (i := 304) (by decide +kernel) rfl
theorem lk_n_math : Cond.initialized "java/lang/Math" ∈ gTB := gTm (i := 7) (by decide +kernel) rfl
theorem lk_c_math_min : Cond.code Lib.Math.min.name Lib.Math.min.code 2 (some .int) ∈ gTB := gTm (i := 305) (by decide +kernel) rfl
theorem lk_mRJ7_150 : Cond.methodLink RJ7 150 arraycopyName ∈ gTB := gTm (i := 406) (by decide +kernel) rfl
theorem lk_na_acopy : Cond.native arraycopyName ∈ gTB := gTm (i := 408) (by decide +kernel) rfl
theorem lk_s_acopy : Cond.static arraycopyName ∈ gTB := gTm (i := 407) (by decide +kernel) rfl
theorem lk_n_System : Cond.initialized "java/lang/System" ∈ gTB := gTm (i := 27) (by decide +kernel) rfl
theorem lk_kRJ7_110 : Cond.classLink RJ7 110 "[Ljava/lang/Object;" ∈ gTB := gTm (i := 402) (by decide +kernel) rfl
theorem lk_kRJ7_2 : Cond.classLink RJ7 2 "java/lang/Object" ∈ gTB := gTm (i := 404) (by decide +kernel) rfl
theorem lk_mRJ8_194 : Cond.methodLink RJ8 194 Lib.Math.max.name ∈ gTB := gTm (i := 368) (by decide +kernel) rfl
theorem lk_s_math_max : Cond.static Lib.Math.max.name ∈ gTB := gTm (i := 89) (by decide +kernel) rfl
theorem lk_c_math_max : Cond.code Lib.Math.max.name Lib.Math.max.code 2 (some .int) ∈ gTB := gTm (i := 90) (by decide +kernel) rfl
theorem lk_coRJ8_200 : Cond.constant RJ8 200 2147483639 ∈ gTB := gTm (i := 369) (by decide +kernel) rfl
theorem gin13 : ∀ w ∈ u_ws RJx4a65c TJx4a65c 3, w ∈ gTB := gin [73, 69, 71] (by decide +kernel) (by decide +kernel)
theorem lk_fRJx4a65c_9 : Cond.fieldLink RJx4a65c 9 RJx4a65c (TJx4a65c 1).2.1 (TJx4a65c 1).2.2.1 ∈ gTB := gTm (i := 64) (by decide +kernel) rfl
theorem lk_sf_Jx4a65c_0_RJx4a65c : Cond.sameField RJx4a65c (TJx4a65c 0).1 (TJx4a65c 0).2.1 (TJx4a65c 0).2.2.1 ∈ gTB := gTm (i := 68) (by decide +kernel) rfl
theorem lk_fRJx4a65c_63 : Cond.fieldLink RJx4a65c 63 RJx4a65c (TJx4a65c 0).2.1 (TJx4a65c 0).2.2.1 ∈ gTB := gTm (i := 67) (by decide +kernel) rfl
theorem lk_fRJx4a65c_48 : Cond.fieldLink RJx4a65c 48 RJx4a65c (TJx4a65c 2).2.1 (TJx4a65c 2).2.2.1 ∈ gTB := gTm (i := 65) (by decide +kernel) rfl
theorem lk_mRJx4a65c_112 : Cond.methodLink RJx4a65c 112 arraycopyName ∈ gTB := gTm (i := 940) (by decide +kernel) rfl
theorem lk_mRJxa1e45_1 : Cond.methodLink RJxa1e45 1 objectInit ∈ gTB := gTm (i := 61) (by decide +kernel) rfl
theorem lk_i_objinit : Cond.instanceMethod objectInit ∈ gTB := gTm (i := 42) (by decide +kernel) rfl
theorem lk_c_objinit : Cond.code objectInit ⟨#[0xb1]⟩ 1 none ∈ gTB := gTm (i := 43) (by decide +kernel) rfl
theorem lk_mRJ15_105 : Cond.methodLink RJ15 105 yJ3_checkIndex_8e157 ∈ gTB := gTm (i := 286) (by decide +kernel) rfl
theorem lk_s_J3_checkIndex_8e157 : Cond.static yJ3_checkIndex_8e157 ∈ gTB := gTm (i := 287) (by decide +kernel) rfl
theorem lk_n_RJ3 : Cond.initialized RJ3 ∈ gTB := gTm (i := 19) (by decide +kernel) rfl
theorem lk_c_J3_checkIndex_8e157 : Cond.code yJ3_checkIndex_8e157 cJ3_checkIndex_8e157 3 (some .int) ∈ gTB := gTm (i := 288) (by decide +kernel) rfl
theorem lk_sRJ15_105 : ∀ w ∈ va_wsS RJ15 105 yJ3_checkIndex_8e157 (gW yJ3_checkIndex_8e157 cJ3_checkIndex_8e157 3 (some .int)), w ∈ gTB := gS2_in lk_mRJ15_105 lk_s_J3_checkIndex_8e157 lk_n_RJ3 lk_c_J3_checkIndex_8e157
theorem lk_mRJ7_86 : Cond.methodLink RJ7 86 ⟨"java/lang/Object", "getClass", "()Ljava/lang/Class;"⟩ ∈ gTB := gTm (i := 376) (by decide +kernel) rfl
theorem lk_e_getClass : Cond.selects "[Ljava/lang/Object;" ⟨"java/lang/Object", "getClass", "()Ljava/lang/Class;"⟩ ⟨"java/lang/Object", "getClass", "()Ljava/lang/Class;"⟩ ∈ gTB := gTm (i := 2036) (by decide +kernel) rfl
theorem lk_i_getClass : Cond.instanceMethod ⟨"java/lang/Object", "getClass", "()Ljava/lang/Class;"⟩ ∈ gTB := gTm (i := 377) (by decide +kernel) rfl
theorem lk_na_getClass : Cond.native ⟨"java/lang/Object", "getClass", "()Ljava/lang/Class;"⟩ ∈ gTB := gTm (i := 398) (by decide +kernel) rfl
theorem lk_mRJ7_300 : Cond.methodLink RJ7 300 yJ7_copyOf_6403c ∈ gTB := gTm (i := 399) (by decide +kernel) rfl
theorem lk_s_J7_copyOf_6403c : Cond.static yJ7_copyOf_6403c ∈ gTB := gTm (i := 400) (by decide +kernel) rfl
theorem lk_n_RJ7 : Cond.initialized RJ7 ∈ gTB := gTm (i := 26) (by decide +kernel) rfl
theorem lk_c_J7_copyOf_6403c : Cond.code yJ7_copyOf_6403c cJ7_copyOf_6403c 4 (some (.array (.object "java/lang/Object"))) ∈ gTB := gTm (i := 401) (by decide +kernel) rfl
theorem lk_sRJ7_300 : ∀ w ∈ wsS RJ7 300 yJ7_copyOf_6403c (gW yJ7_copyOf_6403c cJ7_copyOf_6403c 4 (some (.array (.object "java/lang/Object")))), w ∈ gTB := gS_in lk_mRJ7_300 lk_s_J7_copyOf_6403c lk_n_RJ7 lk_c_J7_copyOf_6403c
theorem lk_c_Jxa1e45_init_da8c8 : Cond.code yJxa1e45_init_da8c8 cJxa1e45_init_da8c8 1 none ∈ gTB := gTm (i := 60) (by decide +kernel) rfl
theorem lk_n_RJxa1e45 : Cond.initialized RJxa1e45 ∈ gTB := gTm (i := 2) (by decide +kernel) rfl
theorem lk_mRJxc12de_1 : Cond.methodLink RJxc12de 1 yJxa1e45_init_da8c8 ∈ gTB := gTm (i := 58) (by decide +kernel) rfl
theorem lk_i_Jxa1e45_init_da8c8 : Cond.instanceMethod yJxa1e45_init_da8c8 ∈ gTB := gTm (i := 59) (by decide +kernel) rfl
theorem lk_fRJxc12de_7 : Cond.fieldLink RJxc12de 7 RJxc12de (TJx4a65c 0).2.1 (TJx4a65c 0).2.2.1 ∈ gTB := gTm (i := 66) (by decide +kernel) rfl
theorem lk_mRJx4a65c_118 : Cond.methodLink RJx4a65c 118 yJ15_checkIndex_7cf53 ∈ gTB := gTm (i := 283) (by decide +kernel) rfl
theorem lk_s_J15_checkIndex_7cf53 : Cond.static yJ15_checkIndex_7cf53 ∈ gTB := gTm (i := 284) (by decide +kernel) rfl
theorem lk_n_RJ15 : Cond.initialized RJ15 ∈ gTB := gTm (i := 18) (by decide +kernel) rfl
theorem lk_c_J15_checkIndex_7cf53 : Cond.code yJ15_checkIndex_7cf53 cJ15_checkIndex_7cf53 2 (some .int) ∈ gTB := gTm (i := 285) (by decide +kernel) rfl
theorem lk_sRJx4a65c_118 : ∀ w ∈ va_wsS RJx4a65c 118 yJ15_checkIndex_7cf53 (gW yJ15_checkIndex_7cf53 cJ15_checkIndex_7cf53 2 (some .int)), w ∈ gTB := gS2_in lk_mRJx4a65c_118 lk_s_J15_checkIndex_7cf53 lk_n_RJ15 lk_c_J15_checkIndex_7cf53
theorem lk_mRJx4a65c_123 : Cond.methodLink RJx4a65c 123 yJx4a65c_elementData_915e3 ∈ gTB := gTm (i := 289) (by decide +kernel) rfl
theorem lk_i_Jx4a65c_elementData_915e3 : Cond.instanceMethod yJx4a65c_elementData_915e3 ∈ gTB := gTm (i := 290) (by decide +kernel) rfl
theorem lk_e_Jx4a65c_elementData_915e3 : Cond.selects RJx4a65c yJx4a65c_elementData_915e3 yJx4a65c_elementData_915e3 ∈ gTB := gTm (i := 291) (by decide +kernel) rfl
theorem lk_n_RJx4a65c : Cond.initialized RJx4a65c ∈ gTB := gTm (i := 4) (by decide +kernel) rfl
theorem lk_c_Jx4a65c_elementData_915e3 : Cond.code yJx4a65c_elementData_915e3 cJx4a65c_elementData_915e3 2 (some (.object "java/lang/Object")) ∈ gTB := gTm (i := 292) (by decide +kernel) rfl
theorem lk_vRJx4a65c_123 : ∀ w ∈ wsV RJx4a65c 123 RJx4a65c yJx4a65c_elementData_915e3 (gW yJx4a65c_elementData_915e3 cJx4a65c_elementData_915e3 2 (some (.object "java/lang/Object"))), w ∈ gTB := gV_in lk_mRJx4a65c_123 lk_i_Jx4a65c_elementData_915e3 lk_e_Jx4a65c_elementData_915e3 lk_n_RJx4a65c lk_c_Jx4a65c_elementData_915e3
theorem lk_mRJx4a65c_73 : Cond.methodLink RJx4a65c 73 yJ8_newLength_cabcc ∈ gTB := gTm (i := 365) (by decide +kernel) rfl
theorem lk_s_J8_newLength_cabcc : Cond.static yJ8_newLength_cabcc ∈ gTB := gTm (i := 366) (by decide +kernel) rfl
theorem lk_n_RJ8 : Cond.initialized RJ8 ∈ gTB := gTm (i := 25) (by decide +kernel) rfl
theorem lk_c_J8_newLength_cabcc : Cond.code yJ8_newLength_cabcc cJ8_newLength_cabcc 4 (some .int) ∈ gTB := gTm (i := 367) (by decide +kernel) rfl
theorem lk_sRJx4a65c_73 : ∀ w ∈ va_wsS RJx4a65c 73 yJ8_newLength_cabcc (gW yJ8_newLength_cabcc cJ8_newLength_cabcc 4 (some .int)), w ∈ gTB := gS2_in lk_mRJx4a65c_73 lk_s_J8_newLength_cabcc lk_n_RJ8 lk_c_J8_newLength_cabcc
theorem lk_mRJx4a65c_66 : Cond.methodLink RJx4a65c 66 yJ7_copyOf_1904c ∈ gTB := gTm (i := 373) (by decide +kernel) rfl
theorem lk_s_J7_copyOf_1904c : Cond.static yJ7_copyOf_1904c ∈ gTB := gTm (i := 374) (by decide +kernel) rfl
theorem lk_c_J7_copyOf_1904c : Cond.code yJ7_copyOf_1904c cJ7_copyOf_1904c 2 (some (.array (.object "java/lang/Object"))) ∈ gTB := gTm (i := 375) (by decide +kernel) rfl
theorem lk_sRJx4a65c_66 : ∀ w ∈ va_wsS RJx4a65c 66 yJ7_copyOf_1904c (gW yJ7_copyOf_1904c cJ7_copyOf_1904c 2 (some (.array (.object "java/lang/Object")))), w ∈ gTB := gS2_in lk_mRJx4a65c_66 lk_s_J7_copyOf_1904c lk_n_RJ7 lk_c_J7_copyOf_1904c
theorem lk_gsRJx4a65c_39 : Cond.fieldLink RJx4a65c 39 "java/util/ArrayList" "DEFAULTCAPACITY_EMPTY_ELEMENTDATA" "[Ljava/lang/Object;" ∈ gTB := gTm (i := 62) (by decide +kernel) rfl
theorem lk_mRJx4a65c_79 : Cond.methodLink RJx4a65c 79 Lib.Math.max.name ∈ gTB := gTm (i := 409) (by decide +kernel) rfl
theorem lk_kRJx4a65c_7 : Cond.classLink RJx4a65c 7 "java/lang/Object" ∈ gTB := gTm (i := 410) (by decide +kernel) rfl
theorem lk_c_Jxc12de_init_da8c8 : Cond.code yJxc12de_init_da8c8 cJxc12de_init_da8c8 1 none ∈ gTB := gTm (i := 57) (by decide +kernel) rfl
theorem lk_n_RJxc12de : Cond.initialized RJxc12de ∈ gTB := gTm (i := 3) (by decide +kernel) rfl
theorem lk_mRJx4a65c_1 : Cond.methodLink RJx4a65c 1 yJxc12de_init_da8c8 ∈ gTB := gTm (i := 55) (by decide +kernel) rfl
theorem lk_i_Jxc12de_init_da8c8 : Cond.instanceMethod yJxc12de_init_da8c8 ∈ gTB := gTm (i := 56) (by decide +kernel) rfl
theorem lk_mRJx4a65c_144 : Cond.methodLink RJx4a65c 144 yJx4a65c_fastRemove_b59b0 ∈ gTB := gTm (i := 1246) (by decide +kernel) rfl
theorem lk_i_Jx4a65c_fastRemove_b59b0 : Cond.instanceMethod yJx4a65c_fastRemove_b59b0 ∈ gTB := gTm (i := 1248) (by decide +kernel) rfl
theorem lk_e_Jx4a65c_fastRemove_b59b0 : Cond.selects RJx4a65c yJx4a65c_fastRemove_b59b0 yJx4a65c_fastRemove_b59b0 ∈ gTB := gTp (i := 33) (q := (yJx4a65c_fastRemove_b59b0, 3)) (by decide +kernel)
theorem lk_c_Jx4a65c_fastRemove_b59b0 : Cond.code yJx4a65c_fastRemove_b59b0 cJx4a65c_fastRemove_b59b0 4 none ∈ gTB := gTm (i := 1249) (by decide +kernel) rfl
theorem lk_vRJx4a65c_144 : ∀ w ∈ wsV RJx4a65c 144 RJx4a65c yJx4a65c_fastRemove_b59b0 (gW yJx4a65c_fastRemove_b59b0 cJx4a65c_fastRemove_b59b0 4 none), w ∈ gTB := gV_in lk_mRJx4a65c_144 lk_i_Jx4a65c_fastRemove_b59b0 lk_e_Jx4a65c_fastRemove_b59b0 lk_n_RJx4a65c lk_c_Jx4a65c_fastRemove_b59b0
theorem lk_mRJx4a65c_69 : Cond.methodLink RJx4a65c 69 yJx4a65c_grow_92f84 ∈ gTB := gTm (i := 361) (by decide +kernel) rfl
theorem lk_i_Jx4a65c_grow_92f84 : Cond.instanceMethod yJx4a65c_grow_92f84 ∈ gTB := gTm (i := 363) (by decide +kernel) rfl
theorem lk_e_Jx4a65c_grow_92f84 : Cond.selects RJx4a65c yJx4a65c_grow_92f84 yJx4a65c_grow_92f84 ∈ gTB := gTp (i := 6) (q := (yJx4a65c_grow_92f84, 3)) (by decide +kernel)
theorem lk_c_Jx4a65c_grow_92f84 : Cond.code yJx4a65c_grow_92f84 cJx4a65c_grow_92f84 4 (some (.array (.object "java/lang/Object"))) ∈ gTB := gTm (i := 364) (by decide +kernel) rfl
theorem lk_vRJx4a65c_69 : ∀ w ∈ wsV RJx4a65c 69 RJx4a65c yJx4a65c_grow_92f84 (gW yJx4a65c_grow_92f84 cJx4a65c_grow_92f84 4 (some (.array (.object "java/lang/Object")))), w ∈ gTB := gV_in lk_mRJx4a65c_69 lk_i_Jx4a65c_grow_92f84 lk_e_Jx4a65c_grow_92f84 lk_n_RJx4a65c lk_c_Jx4a65c_grow_92f84
theorem lk_mRJx4a65c_129 : Cond.methodLink RJx4a65c 129 yJx4a65c_grow_d5877 ∈ gTB := gTm (i := 357) (by decide +kernel) rfl
theorem lk_i_Jx4a65c_grow_d5877 : Cond.instanceMethod yJx4a65c_grow_d5877 ∈ gTB := gTm (i := 359) (by decide +kernel) rfl
theorem lk_e_Jx4a65c_grow_d5877 : Cond.selects RJx4a65c yJx4a65c_grow_d5877 yJx4a65c_grow_d5877 ∈ gTB := gTp (i := 5) (q := (yJx4a65c_grow_d5877, 3)) (by decide +kernel)
theorem lk_c_Jx4a65c_grow_d5877 : Cond.code yJx4a65c_grow_d5877 cJx4a65c_grow_d5877 1 (some (.array (.object "java/lang/Object"))) ∈ gTB := gTm (i := 360) (by decide +kernel) rfl
theorem lk_vRJx4a65c_129 : ∀ w ∈ wsV RJx4a65c 129 RJx4a65c yJx4a65c_grow_d5877 (gW yJx4a65c_grow_d5877 cJx4a65c_grow_d5877 1 (some (.array (.object "java/lang/Object")))), w ∈ gTB := gV_in lk_mRJx4a65c_129 lk_i_Jx4a65c_grow_d5877 lk_e_Jx4a65c_grow_d5877 lk_n_RJx4a65c lk_c_Jx4a65c_grow_d5877
theorem lk_mRJx4a65c_135 : Cond.methodLink RJx4a65c 135 yJx4a65c_rangeCheckForAdd_d00df ∈ gTB := gTm (i := 684) (by decide +kernel) rfl
theorem lk_i_Jx4a65c_rangeCheckForAdd_d00df : Cond.instanceMethod yJx4a65c_rangeCheckForAdd_d00df ∈ gTB := gTm (i := 686) (by decide +kernel) rfl
theorem lk_e_Jx4a65c_rangeCheckForAdd_d00df : Cond.selects RJx4a65c yJx4a65c_rangeCheckForAdd_d00df yJx4a65c_rangeCheckForAdd_d00df ∈ gTB := gTp (i := 17) (q := (yJx4a65c_rangeCheckForAdd_d00df, 3)) (by decide +kernel)
theorem lk_c_Jx4a65c_rangeCheckForAdd_d00df : Cond.code yJx4a65c_rangeCheckForAdd_d00df cJx4a65c_rangeCheckForAdd_d00df 2 none ∈ gTB := gTm (i := 687) (by decide +kernel) rfl
theorem lk_vRJx4a65c_135 : ∀ w ∈ wsV RJx4a65c 135 RJx4a65c yJx4a65c_rangeCheckForAdd_d00df (gW yJx4a65c_rangeCheckForAdd_d00df cJx4a65c_rangeCheckForAdd_d00df 2 none), w ∈ gTB := gV_in lk_mRJx4a65c_135 lk_i_Jx4a65c_rangeCheckForAdd_d00df lk_e_Jx4a65c_rangeCheckForAdd_d00df lk_n_RJx4a65c lk_c_Jx4a65c_rangeCheckForAdd_d00df
theorem lk_mRJx4a65c_131 : Cond.methodLink RJx4a65c 131 yJx4a65c_add_72be8 ∈ gTB := gTm (i := 353) (by decide +kernel) rfl
theorem lk_i_Jx4a65c_add_72be8 : Cond.instanceMethod yJx4a65c_add_72be8 ∈ gTB := gTm (i := 355) (by decide +kernel) rfl
theorem lk_e_Jx4a65c_add_72be8 : Cond.selects RJx4a65c yJx4a65c_add_72be8 yJx4a65c_add_72be8 ∈ gTB := gTp (i := 4) (q := (yJx4a65c_add_72be8, 3)) (by decide +kernel)
theorem lk_c_Jx4a65c_add_72be8 : Cond.code yJx4a65c_add_72be8 cJx4a65c_add_72be8 4 none ∈ gTB := gTm (i := 356) (by decide +kernel) rfl
theorem lk_vRJx4a65c_131 : ∀ w ∈ wsV RJx4a65c 131 RJx4a65c yJx4a65c_add_72be8 (gW yJx4a65c_add_72be8 cJx4a65c_add_72be8 4 none), w ∈ gTB := gV_in lk_mRJx4a65c_131 lk_i_Jx4a65c_add_72be8 lk_e_Jx4a65c_add_72be8 lk_n_RJx4a65c lk_c_Jx4a65c_add_72be8
