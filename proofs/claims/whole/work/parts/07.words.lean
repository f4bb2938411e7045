theorem lk_acint : Cond.arrayClass .int ∈ gTB := gTm (i := 98) (by decide +kernel) rfl
theorem lk_mRJ7_304 : Cond.methodLink RJ7 304 Lib.Math.min.name ∈ gTB := gTm (i := 405) (by decide +kernel) rfl
theorem lk_s_math_min : Cond.static Lib.Math.min.name ∈ gTB := gTm (i := 304) (by decide +kernel) rfl
theorem lk_n_math : Cond.initialized "java/lang/Math" ∈ gTB := gTm (i := 7) (by decide +kernel) rfl
theorem lk_c_math_min : Cond.code Lib.Math.min.name Lib.Math.min.code 2 (some .int) ∈ gTB := gTm (i := 305) (by decide +kernel) rfl
theorem lk_mRJ7_150 : Cond.methodLink RJ7 150 arraycopyName ∈ gTB := gTm (i := 406) (by decide +kernel) rfl
theorem lk_na_acopy : Cond.native arraycopyName ∈ gTB := gTm (i := 408) (by decide +kernel) rfl
theorem lk_s_acopy : Cond.static arraycopyName ∈ gTB := gTm (i := 407) (by decide +kernel) rfl
theorem lk_n_System : Cond.initialized "java/lang/System" ∈ gTB := gTm (i := 27) (by decide +kernel) rfl
theorem lk_kRJ7_110 : Cond.classLink RJ7 110 "[Ljava/lang/Object;" ∈ gTB := gTm (i := 402) (by decide +kernel) rfl
theorem lk_kRJ7_2 : Cond.classLink RJ7 2 "java/lang/Object" ∈ gTB := gTm (i := 404) (by decide +kernel) rfl
theorem lk_mRJ8_194 : Cond.methodLink RJ8 194 Lib.Math.max.name ∈ gTB := gTm (i := 368) (by decide +kernel) rfl
theorem lk_s_math_max : Cond.static Lib.Math.max.name ∈ gTB := gTm (i := 89) (by decide +kernel) rfl
theorem lk_c_math_max : Cond.code Lib.Math.max.name Lib.Math.max.code 2 (some .int) ∈ gTB := gTm (i := 90) (by decide +kernel) rfl
theorem lk_coRJ8_200 : Cond.constant RJ8 200 2147483639 ∈ gTB := gTm (i := 369) (by decide +kernel) rfl
theorem gin13 : ∀ w ∈ u_ws RJx4a65c TJx4a65c 3, w ∈ gTB := gin [73, 69, 71] (by decide +kernel) (by decide +kernel)
theorem lk_fRJx4a65c_9 : Cond.fieldLink RJx4a65c 9 RJx4a65c (TJx4a65c 1).2.1 (TJx4a65c 1).2.2.1 ∈ gTB := gTm (i := 64) (by decide +kernel) rfl
theorem lk_sf_Jx4a65c_0_RJx4a65c : Cond.sameField RJx4a65c (TJx4a65c 0).1 (TJx4a65c 0).2.1 (TJx4a65c 0).2.2.1 ∈ gTB := gTm (i := 68) (by decide +kernel) rfl
theorem lk_fRJx4a65c_63 : Cond.fieldLink RJx4a65c 63 RJx4a65c (TJx4a65c 0).2.1 (TJx4a65c 0).2.2.1 ∈ gTB := gTm (i := 67) (by decide +kernel) rfl
theorem lk_fRJx4a65c_48 : Cond.fieldLink RJx4a65c 48 RJx4a65c (TJx4a65c 2).2.1 (TJx4a65c 2).2.2.1 ∈ gTB := gTm (i := 65) (by decide +kernel) rfl
theorem lk_mRJx4a65c_112 : Cond.methodLink RJx4a65c 112 arraycopyName ∈ gTB := gTm (i := 940) (by decide +kernel) rfl
theorem lk_mRJxa1e45_1 : Cond.methodLink RJxa1e45 1 objectInit ∈ gTB := gTm (i := 61) (by decide +kernel) rfl
theorem lk_i_objinit : Cond.instanceMethod objectInit ∈ gTB := gTm (i := 42) (by decide +kernel) rfl
theorem lk_c_objinit : Cond.code objectInit ⟨#[0xb1]⟩ 1 none ∈ gTB := gTm (i := 43) (by decide +kernel) rfl
theorem lk_mRJ15_105 : Cond.methodLink RJ15 105 yJ3_checkIndex_8e157 ∈ gTB := gTm (i := 286) (by decide +kernel) rfl
theorem lk_s_J3_checkIndex_8e157 : Cond.static yJ3_checkIndex_8e157 ∈ gTB := gTm (i := 287) (by decide +kernel) rfl
theorem lk_n_RJ3 : Cond.initialized RJ3 ∈ gTB := gTm (i := 19) (by decide +kernel) rfl
theorem lk_c_J3_checkIndex_8e157 : Cond.code yJ3_checkIndex_8e157 cJ3_checkIndex_8e157 3 (some .int) ∈ gTB := gTm (i := 288) (by decide +kernel) rfl
theorem lk_sRJ15_105 : ∀ w ∈ va_wsS RJ15 105 yJ3_checkIndex_8e157 (gW yJ3_checkIndex_8e157 cJ3_checkIndex_8e157 3 (some .int)), w ∈ gTB := gS2_in lk_mRJ15_105 lk_s_J3_checkIndex_8e157 lk_n_RJ3 lk_c_J3_checkIndex_8e157
theorem lk_mRJ7_86 : Cond.methodLink RJ7 86 ⟨"java/lang/Object", "getClass", "()Ljava/lang/Class;"⟩ ∈ gTB := gTm (i := 376) (by decide +kernel) rfl
theorem lk_e_getClass : Cond.selects "[Ljava/lang/Object;" ⟨"java/lang/Object", "getClass", "()Ljava/lang/Class;"⟩ ⟨"java/lang/Object", "getClass", "()Ljava/lang/Class;"⟩ ∈ gTB := gTm (i := 2036) (by decide +kernel) rfl
theorem lk_i_getClass : Cond.instanceMethod ⟨"java/lang/Object", "getClass", "()Ljava/lang/Class;"⟩ ∈ gTB := gTm (i := 377) (by decide +kernel) rfl
theorem lk_na_getClass : Cond.native ⟨"java/lang/Object", "getClass", "()Ljava/lang/Class;"⟩ ∈ gTB := gTm (i := 398) (by decide +kernel) rfl
theorem lk_mRJ7_300 : Cond.methodLink RJ7 300 yJ7_copyOf_6403c ∈ gTB := gTm (i := 399) (by decide +kernel) rfl
theorem lk_s_J7_copyOf_6403c : Cond.static yJ7_copyOf_6403c ∈ gTB := gTm (i := 400) (by decide +kernel) rfl
theorem lk_n_RJ7 : Cond.initialized RJ7 ∈ gTB := gTm (i := 26) (by decide +kernel) rfl
theorem lk_c_J7_copyOf_6403c : Cond.code yJ7_copyOf_6403c cJ7_copyOf_6403c 4 (some (.array (.object "java/lang/Object"))) ∈ gTB := gTm (i := 401) (by decide +kernel) rfl
theorem lk_sRJ7_300 : ∀ w ∈ wsS RJ7 300 yJ7_copyOf_6403c (gW yJ7_copyOf_6403c cJ7_copyOf_6403c 4 (some (.array (.object "java/lang/Object")))), w ∈ gTB := gS_in lk_mRJ7_300 lk_s_J7_copyOf_6403c lk_n_RJ7 lk_c_J7_copyOf_6403c
theorem lk_c_Jxa1e45_init_da8c8 : Cond.code yJxa1e45_init_da8c8 cJxa1e45_init_da8c8 1 none ∈ gTB := gTm (i := 60) (by decide +kernel) rfl
theorem lk_n_RJxa1e45 : Cond.initialized RJxa1e45 ∈ gTB := gTm (i := 2) (by decide +kernel) rfl
theorem lk_mRJxc12de_1 : Cond.methodLink RJxc12de 1 yJxa1e45_init_da8c8 ∈ gTB := gTm (i := 58) (by decide +kernel) rfl
theorem lk_i_Jxa1e45_init_da8c8 : Cond.instanceMethod yJxa1e45_init_da8c8 ∈ gTB := gTm (i := 59) (by decide +kernel) rfl
theorem lk_fRJxc12de_7 : Cond.fieldLink RJxc12de 7 RJxc12de (TJx4a65c 0).2.1 (TJx4a65c 0).2.2.1 ∈ gTB := gTm (i := 66) (by decide +kernel) rfl
theorem lk_mRJx4a65c_118 : Cond.methodLink RJx4a65c 118 yJ15_checkIndex_7cf53 ∈ gTB := gTm (i := 283) (by decide +kernel) rfl
theorem lk_s_J15_checkIndex_7cf53 : Cond.static yJ15_checkIndex_7cf53 ∈ gTB := gTm (i := 284) (by decide +kernel) rfl
theorem lk_n_RJ15 : Cond.initialized RJ15 ∈ gTB := gTm (i := 18) (by decide +kernel) rfl
theorem lk_c_J15_checkIndex_7cf53 : Cond.code yJ15_checkIndex_7cf53 cJ15_checkIndex_7cf53 2 (some .int) ∈ gTB := gTm (i := 285) (by decide +kernel) rfl
theorem lk_sRJx4a65c_118 : ∀ w ∈ va_wsS RJx4a65c 118 yJ15_checkIndex_7cf53 (gW yJ15_checkIndex_7cf53 cJ15_checkIndex_7cf53 2 (some .int)), w ∈ gTB := gS2_in lk_mRJx4a65c_118 lk_s_J15_checkIndex_7cf53 lk_n_RJ15 lk_c_J15_checkIndex_7cf53
theorem lk_mRJx4a65c_123 : Cond.methodLink RJx4a65c 123 yJx4a65c_elementData_915e3 ∈ gTB := gTm (i := 289) (by decide +kernel) rfl
theorem lk_i_Jx4a65c_elementData_915e3 : Cond.instanceMethod yJx4a65c_elementData_915e3 ∈ gTB := gTm (i := 290) (by decide +kernel) rfl
theorem lk_e_Jx4a65c_elementData_915e3 : Cond.selects RJx4a65c yJx4a65c_elementData_915e3 yJx4a65c_elementData_915e3 ∈ gTB := gTm (i := 291) (by decide +kernel) rfl
theorem lk_n_RJx4a65c : Cond.initialized RJx4a65c ∈ gTB := gTm (i := 4) (by decide +kernel) rfl
theorem lk_c_Jx4a65c_elementData_915e3 : Cond.code yJx4a65c_elementData_915e3 cJx4a65c_elementData_915e3 2 (some (.object "java/lang/Object")) ∈ gTB := gTm (i := 292) (by decide +kernel) rfl
theorem lk_vRJx4a65c_123 : ∀ w ∈ wsV RJx4a65c 123 RJx4a65c yJx4a65c_elementData_915e3 (gW yJx4a65c_elementData_915e3 cJx4a65c_elementData_915e3 2 (some (.object "java/lang/Object"))), w ∈ gTB := gV_in lk_mRJx4a65c_123 lk_i_Jx4a65c_elementData_915e3 lk_e_Jx4a65c_elementData_915e3 lk_n_RJx4a65c lk_c_Jx4a65c_elementData_915e3
theorem lk_mRJx4a65c_73 : Cond.methodLink RJx4a65c 73 yJ8_newLength_cabcc ∈ gTB := gTm (i := 365) (by decide +kernel) rfl
theorem lk_s_J8_newLength_cabcc : Cond.static yJ8_newLength_cabcc ∈ gTB := gTm (i := 366) (by decide +kernel) rfl
theorem lk_n_RJ8 : Cond.initialized RJ8 ∈ gTB := gTm (i := 25) (by decide +kernel) rfl
theorem lk_c_J8_newLength_cabcc : Cond.code yJ8_newLength_cabcc cJ8_newLength_cabcc 4 (some .int) ∈ gTB := gTm (i := 367) (by decide +kernel) rfl
theorem lk_sRJx4a65c_73 : ∀ w ∈ va_wsS RJx4a65c 73 yJ8_newLength_cabcc (gW yJ8_newLength_cabcc cJ8_newLength_cabcc 4 (some .int)), w ∈ gTB := gS2_in lk_mRJx4a65c_73 lk_s_J8_newLength_cabcc lk_n_RJ8 lk_c_J8_newLength_cabcc
theorem lk_mRJx4a65c_66 : Cond.methodLink RJx4a65c 66 yJ7_copyOf_1904c ∈ gTB := gTm (i := 373) (by decide +kernel) rfl
theorem lk_s_J7_copyOf_1904c : Cond.static yJ7_copyOf_1904c ∈ gTB := gTm (i := 374) (by decide +kernel) rfl
theorem lk_c_J7_copyOf_1904c : Cond.code yJ7_copyOf_1904c cJ7_copyOf_1904c 2 (some (.array (.object "java/lang/Object"))) ∈ gTB := gTm (i := 375) (by decide +kernel) rfl
theorem lk_sRJx4a65c_66 : ∀ w ∈ va_wsS RJx4a65c 66 yJ7_copyOf_1904c (gW yJ7_copyOf_1904c cJ7_copyOf_1904c 2 (some (.array (.object "java/lang/Object")))), w ∈ gTB := gS2_in lk_mRJx4a65c_66 lk_s_J7_copyOf_1904c lk_n_RJ7 lk_c_J7_copyOf_1904c
theorem lk_gsRJx4a65c_39 : Cond.fieldLink RJx4a65c 39 "java/util/ArrayList" "DEFAULTCAPACITY_EMPTY_ELEMENTDATA" "[Ljava/lang/Object;" ∈ gTB := gTm (i := 62) (by decide +kernel) rfl
theorem lk_mRJx4a65c_79 : Cond.methodLink RJx4a65c 79 Lib.Math.max.name ∈ gTB := gTm (i := 409) (by decide +kernel) rfl
theorem lk_kRJx4a65c_7 : Cond.classLink RJx4a65c 7 "java/lang/Object" ∈ gTB := gTm (i := 410) (by decide +kernel) rfl
theorem lk_c_Jxc12de_init_da8c8 : Cond.code yJxc12de_init_da8c8 cJxc12de_init_da8c8 1 none ∈ gTB := gTm (i := 57) (by decide +kernel) rfl
theorem lk_n_RJxc12de : Cond.initialized RJxc12de ∈ gTB := gTm (i := 3) (by decide +kernel) rfl
theorem lk_mRJx4a65c_1 : Cond.methodLink RJx4a65c 1 yJxc12de_init_da8c8 ∈ gTB := gTm (i := 55) (by decide +kernel) rfl
theorem lk_i_Jxc12de_init_da8c8 : Cond.instanceMethod yJxc12de_init_da8c8 ∈ gTB := gTm (i := 56) (by decide +kernel) rfl
theorem lk_mRJx4a65c_144 : Cond.methodLink RJx4a65c 144 yJx4a65c_fastRemove_b59b0 ∈ gTB := gTm (i := 1246) (by decide +kernel) rfl
theorem lk_i_Jx4a65c_fastRemove_b59b0 : Cond.instanceMethod yJx4a65c_fastRemove_b59b0 ∈ gTB := gTm (i := 1248) (by decide +kernel) rfl
theorem lk_e_Jx4a65c_fastRemove_b59b0 : Cond.selects RJx4a65c yJx4a65c_fastRemove_b59b0 yJx4a65c_fastRemove_b59b0 ∈ gTB := gTp (i := 33) (q := (yJx4a65c_fastRemove_b59b0, 3)) (by decide +kernel)
theorem lk_c_Jx4a65c_fastRemove_b59b0 : Cond.code yJx4a65c_fastRemove_b59b0 cJx4a65c_fastRemove_b59b0 4 none ∈ gTB := gTm (i := 1249) (by decide +kernel) rfl
theorem lk_vRJx4a65c_144 : ∀ w ∈ wsV RJx4a65c 144 RJx4a65c yJx4a65c_fastRemove_b59b0 (gW yJx4a65c_fastRemove_b59b0 cJx4a65c_fastRemove_b59b0 4 none), w ∈ gTB := gV_in lk_mRJx4a65c_144 lk_i_Jx4a65c_fastRemove_b59b0 lk_e_Jx4a65c_fastRemove_b59b0 lk_n_RJx4a65c lk_c_Jx4a65c_fastRemove_b59b0
theorem lk_mRJx4a65c_69 : Cond.methodLink RJx4a65c 69 yJx4a65c_grow_92f84 ∈ gTB := gTm (i := 361) (by decide +kernel) rfl
theorem lk_i_Jx4a65c_grow_92f84 : Cond.instanceMethod yJx4a65c_grow_92f84 ∈ gTB := gTm (i := 363) (by decide +kernel) rfl
theorem lk_e_Jx4a65c_grow_92f84 : Cond.selects RJx4a65c yJx4a65c_grow_92f84 yJx4a65c_grow_92f84 ∈ gTB := gTp (i := 6) (q := (yJx4a65c_grow_92f84, 3)) (by decide +kernel)
theorem lk_c_Jx4a65c_grow_92f84 : Cond.code yJx4a65c_grow_92f84 cJx4a65c_grow_92f84 4 (some (.array (.object "java/lang/Object"))) ∈ gTB := gTm (i := 364) (by decide +kernel) rfl
theorem lk_vRJx4a65c_69 : ∀ w ∈ wsV RJx4a65c 69 RJx4a65c yJx4a65c_grow_92f84 (gW yJx4a65c_grow_92f84 cJx4a65c_grow_92f84 4 (some (.array (.object "java/lang/Object")))), w ∈ gTB := gV_in lk_mRJx4a65c_69 lk_i_Jx4a65c_grow_92f84 lk_e_Jx4a65c_grow_92f84 lk_n_RJx4a65c lk_c_Jx4a65c_grow_92f84
theorem lk_mRJx4a65c_129 : Cond.methodLink RJx4a65c 129 yJx4a65c_grow_d5877 ∈ gTB := gTm (i := 357) (by decide +kernel) rfl
theorem lk_i_Jx4a65c_grow_d5877 : Cond.instanceMethod yJx4a65c_grow_d5877 ∈ gTB := gTm (i := 359) (by decide +kernel) rfl
theorem lk_e_Jx4a65c_grow_d5877 : Cond.selects RJx4a65c yJx4a65c_grow_d5877 yJx4a65c_grow_d5877 ∈ gTB := gTp (i := 5) (q := (yJx4a65c_grow_d5877, 3)) (by decide +kernel)
theorem lk_c_Jx4a65c_grow_d5877 : Cond.code yJx4a65c_grow_d5877 cJx4a65c_grow_d5877 1 (some (.array (.object "java/lang/Object"))) ∈ gTB := gTm (i := 360) (by decide +kernel) rfl
theorem lk_vRJx4a65c_129 : ∀ w ∈ wsV RJx4a65c 129 RJx4a65c yJx4a65c_grow_d5877 (gW yJx4a65c_grow_d5877 cJx4a65c_grow_d5877 1 (some (.array (.object "java/lang/Object")))), w ∈ gTB := gV_in lk_mRJx4a65c_129 lk_i_Jx4a65c_grow_d5877 lk_e_Jx4a65c_grow_d5877 lk_n_RJx4a65c lk_c_Jx4a65c_grow_d5877
theorem lk_mRJx4a65c_135 : Cond.methodLink RJx4a65c 135 yJx4a65c_rangeCheckForAdd_d00df ∈ gTB := gTm (i := 684) (by decide +kernel) rfl
theorem lk_i_Jx4a65c_rangeCheckForAdd_d00df : Cond.instanceMethod yJx4a65c_rangeCheckForAdd_d00df ∈ gTB := gTm (i := 686) (by decide +kernel) rfl
theorem lk_e_Jx4a65c_rangeCheckForAdd_d00df : Cond.selects RJx4a65c yJx4a65c_rangeCheckForAdd_d00df yJx4a65c_rangeCheckForAdd_d00df ∈ gTB := gTp (i := 17) (q := (yJx4a65c_rangeCheckForAdd_d00df, 3)) (by decide +kernel)
theorem lk_c_Jx4a65c_rangeCheckForAdd_d00df : Cond.code yJx4a65c_rangeCheckForAdd_d00df cJx4a65c_rangeCheckForAdd_d00df 2 none ∈ gTB := gTm (i := 687) (by decide +kernel) rfl
theorem lk_vRJx4a65c_135 : ∀ w ∈ wsV RJx4a65c 135 RJx4a65c yJx4a65c_rangeCheckForAdd_d00df (gW yJx4a65c_rangeCheckForAdd_d00df cJx4a65c_rangeCheckForAdd_d00df 2 none), w ∈ gTB := gV_in lk_mRJx4a65c_135 lk_i_Jx4a65c_rangeCheckForAdd_d00df lk_e_Jx4a65c_rangeCheckForAdd_d00df lk_n_RJx4a65c lk_c_Jx4a65c_rangeCheckForAdd_d00df
theorem lk_mRJx4a65c_131 : Cond.methodLink RJx4a65c 131 yJx4a65c_add_72be8 ∈ gTB := gTm (i := 353) (by decide +kernel) rfl
theorem lk_i_Jx4a65c_add_72be8 : Cond.instanceMethod yJx4a65c_add_72be8 ∈ gTB := gTm (i := 355) (by decide +kernel) rfl
theorem lk_e_Jx4a65c_add_72be8 : Cond.selects RJx4a65c yJx4a65c_add_72be8 yJx4a65c_add_72be8 ∈ gTB := gTp (i := 4) (q := (yJx4a65c_add_72be8, 3)) (by decide +kernel)
theorem lk_c_Jx4a65c_add_72be8 : Cond.code yJx4a65c_add_72be8 cJx4a65c_add_72be8 4 none ∈ gTB := gTm (i := 356) (by decide +kernel) rfl
theorem lk_vRJx4a65c_131 : ∀ w ∈ wsV RJx4a65c 131 RJx4a65c yJx4a65c_add_72be8 (gW yJx4a65c_add_72be8 cJx4a65c_add_72be8 4 none), w ∈ gTB := gV_in lk_mRJx4a65c_131 lk_i_Jx4a65c_add_72be8 lk_e_Jx4a65c_add_72be8 lk_n_RJx4a65c lk_c_Jx4a65c_add_72be8
theorem gin12 : ∀ w ∈ u_ws RX12 TX12 65, w ∈ gTB := gin [1509, 1511, 1513, 1515, 1517, 1519, 1521, 1523, 1525, 1527, 1529, 1531, 1533, 1535, 1537, 1539, 1541, 1543, 1545, 1547, 1549, 1551, 1553, 1555, 1557, 1559, 1561, 1563, 1565, 1567, 1569, 1571, 1573, 1575, 1577, 1579, 1581, 1583, 1585, 1587, 1589, 1591, 1593, 1595, 1597, 1599, 1601, 1603, 1605, 1607, 1609, 1611, 1613, 1615, 1617, 1619, 1621, 1623, 1625, 1627, 1629, 1631, 1633, 1635, 1637] (by decide +kernel) (by decide +kernel)
theorem lk_fRX12_179 : Cond.fieldLink RX12 179 RX12 (TX12 0).2.1 (TX12 0).2.2.1 ∈ gTB := gTm (i := 1444) (by decide +kernel) rfl
theorem lk_fRX12_254 : Cond.fieldLink RX12 254 RX12 (TX12 2).2.1 (TX12 2).2.2.1 ∈ gTB := gTm (i := 1446) (by decide +kernel) rfl
theorem lk_fRX12_53 : Cond.fieldLink RX12 53 RX12 (TX12 19).2.1 (TX12 19).2.2.1 ∈ gTB := gTm (i := 1463) (by decide +kernel) rfl
theorem lk_fRX12_59 : Cond.fieldLink RX12 59 RX12 (TX12 21).2.1 (TX12 21).2.2.1 ∈ gTB := gTm (i := 1465) (by decide +kernel) rfl
theorem lk_fRX12_187 : Cond.fieldLink RX12 187 RX12 (TX12 15).2.1 (TX12 15).2.2.1 ∈ gTB := gTm (i := 1459) (by decide +kernel) rfl
theorem lk_fRX12_44 : Cond.fieldLink RX12 44 RX12 (TX12 16).2.1 (TX12 16).2.2.1 ∈ gTB := gTm (i := 1460) (by decide +kernel) rfl
theorem lk_fRX12_62 : Cond.fieldLink RX12 62 RX12 (TX12 23).2.1 (TX12 23).2.2.1 ∈ gTB := gTm (i := 1467) (by decide +kernel) rfl
theorem lk_fRX12_71 : Cond.fieldLink RX12 71 RX12 (TX12 26).2.1 (TX12 26).2.2.1 ∈ gTB := gTm (i := 1470) (by decide +kernel) rfl
theorem lk_fRX12_143 : Cond.fieldLink RX12 143 RX12 (TX12 53).2.1 (TX12 53).2.2.1 ∈ gTB := gTm (i := 1497) (by decide +kernel) rfl
theorem lk_fRX12_140 : Cond.fieldLink RX12 140 RX12 (TX12 52).2.1 (TX12 52).2.2.1 ∈ gTB := gTm (i := 1496) (by decide +kernel) rfl
theorem lk_fRX12_203 : Cond.fieldLink RX12 203 RX12 (TX12 39).2.1 (TX12 39).2.2.1 ∈ gTB := gTm (i := 1483) (by decide +kernel) rfl
theorem lk_fRX12_161 : Cond.fieldLink RX12 161 RX12 (TX12 59).2.1 (TX12 59).2.2.1 ∈ gTB := gTm (i := 1503) (by decide +kernel) rfl
theorem lk_fRX12_158 : Cond.fieldLink RX12 158 RX12 (TX12 58).2.1 (TX12 58).2.2.1 ∈ gTB := gTm (i := 1502) (by decide +kernel) rfl
theorem lk_fRX12_116 : Cond.fieldLink RX12 116 RX12 (TX12 43).2.1 (TX12 43).2.2.1 ∈ gTB := gTm (i := 1487) (by decide +kernel) rfl
theorem lk_fRX12_119 : Cond.fieldLink RX12 119 RX12 (TX12 44).2.1 (TX12 44).2.2.1 ∈ gTB := gTm (i := 1488) (by decide +kernel) rfl
theorem lk_fRX12_167 : Cond.fieldLink RX12 167 RX12 (TX12 61).2.1 (TX12 61).2.2.1 ∈ gTB := gTm (i := 1505) (by decide +kernel) rfl
theorem lk_fRX12_28 : Cond.fieldLink RX12 28 RX12 (TX12 10).2.1 (TX12 10).2.2.1 ∈ gTB := gTm (i := 1454) (by decide +kernel) rfl
theorem lk_fRX12_176 : Cond.fieldLink RX12 176 RX12 (TX12 64).2.1 (TX12 64).2.2.1 ∈ gTB := gTm (i := 1508) (by decide +kernel) rfl
theorem lk_fRX12_40 : Cond.fieldLink RX12 40 RX12 (TX12 14).2.1 (TX12 14).2.2.1 ∈ gTB := gTm (i := 1458) (by decide +kernel) rfl
theorem lk_fRX12_34 : Cond.fieldLink RX12 34 RX12 (TX12 12).2.1 (TX12 12).2.2.1 ∈ gTB := gTm (i := 1456) (by decide +kernel) rfl
theorem lk_fRX12_170 : Cond.fieldLink RX12 170 RX12 (TX12 62).2.1 (TX12 62).2.2.1 ∈ gTB := gTm (i := 1506) (by decide +kernel) rfl
theorem lk_fRX12_31 : Cond.fieldLink RX12 31 RX12 (TX12 11).2.1 (TX12 11).2.2.1 ∈ gTB := gTm (i := 1455) (by decide +kernel) rfl
theorem lk_mRX12_1 : Cond.methodLink RX12 1 objectInit ∈ gTB := gTm (i := 1443) (by decide +kernel) rfl
theorem lk_fRX12_7 : Cond.fieldLink RX12 7 RX12 (TX12 4).2.1 (TX12 4).2.2.1 ∈ gTB := gTm (i := 1448) (by decide +kernel) rfl
theorem lk_fRX12_13 : Cond.fieldLink RX12 13 RX12 (TX12 5).2.1 (TX12 5).2.2.1 ∈ gTB := gTm (i := 1449) (by decide +kernel) rfl
theorem lk_fRX12_16 : Cond.fieldLink RX12 16 RX12 (TX12 6).2.1 (TX12 6).2.2.1 ∈ gTB := gTm (i := 1450) (by decide +kernel) rfl
theorem lk_fRX12_19 : Cond.fieldLink RX12 19 RX12 (TX12 7).2.1 (TX12 7).2.2.1 ∈ gTB := gTm (i := 1451) (by decide +kernel) rfl
theorem lk_fRX12_22 : Cond.fieldLink RX12 22 RX12 (TX12 8).2.1 (TX12 8).2.2.1 ∈ gTB := gTm (i := 1452) (by decide +kernel) rfl
theorem lk_fRX12_25 : Cond.fieldLink RX12 25 RX12 (TX12 9).2.1 (TX12 9).2.2.1 ∈ gTB := gTm (i := 1453) (by decide +kernel) rfl
theorem lk_fRX12_37 : Cond.fieldLink RX12 37 RX12 (TX12 13).2.1 (TX12 13).2.2.1 ∈ gTB := gTm (i := 1457) (by decide +kernel) rfl
theorem lk_acboolean : Cond.arrayClass .boolean ∈ gTB := gTm (i := 1640) (by decide +kernel) rfl
theorem lk_fRX12_47 : Cond.fieldLink RX12 47 RX12 (TX12 17).2.1 (TX12 17).2.2.1 ∈ gTB := gTm (i := 1461) (by decide +kernel) rfl
theorem lk_fRX12_50 : Cond.fieldLink RX12 50 RX12 (TX12 18).2.1 (TX12 18).2.2.1 ∈ gTB := gTm (i := 1462) (by decide +kernel) rfl
theorem lk_fRX12_56 : Cond.fieldLink RX12 56 RX12 (TX12 20).2.1 (TX12 20).2.2.1 ∈ gTB := gTm (i := 1464) (by decide +kernel) rfl
theorem lk_fRX12_65 : Cond.fieldLink RX12 65 RX12 (TX12 24).2.1 (TX12 24).2.2.1 ∈ gTB := gTm (i := 1468) (by decide +kernel) rfl
theorem lk_fRX12_68 : Cond.fieldLink RX12 68 RX12 (TX12 25).2.1 (TX12 25).2.2.1 ∈ gTB := gTm (i := 1469) (by decide +kernel) rfl
theorem lk_fRX12_74 : Cond.fieldLink RX12 74 RX12 (TX12 28).2.1 (TX12 28).2.2.1 ∈ gTB := gTm (i := 1472) (by decide +kernel) rfl
theorem lk_fRX12_77 : Cond.fieldLink RX12 77 RX12 (TX12 29).2.1 (TX12 29).2.2.1 ∈ gTB := gTm (i := 1473) (by decide +kernel) rfl
theorem lk_fRX12_80 : Cond.fieldLink RX12 80 RX12 (TX12 30).2.1 (TX12 30).2.2.1 ∈ gTB := gTm (i := 1474) (by decide +kernel) rfl
theorem lk_fRX12_83 : Cond.fieldLink RX12 83 RX12 (TX12 31).2.1 (TX12 31).2.2.1 ∈ gTB := gTm (i := 1475) (by decide +kernel) rfl
theorem lk_fRX12_86 : Cond.fieldLink RX12 86 RX12 (TX12 32).2.1 (TX12 32).2.2.1 ∈ gTB := gTm (i := 1476) (by decide +kernel) rfl
theorem lk_fRX12_89 : Cond.fieldLink RX12 89 RX12 (TX12 33).2.1 (TX12 33).2.2.1 ∈ gTB := gTm (i := 1477) (by decide +kernel) rfl
theorem lk_fRX12_92 : Cond.fieldLink RX12 92 RX12 (TX12 34).2.1 (TX12 34).2.2.1 ∈ gTB := gTm (i := 1478) (by decide +kernel) rfl
theorem lk_fRX12_95 : Cond.fieldLink RX12 95 RX12 (TX12 35).2.1 (TX12 35).2.2.1 ∈ gTB := gTm (i := 1479) (by decide +kernel) rfl
theorem lk_fRX12_98 : Cond.fieldLink RX12 98 RX12 (TX12 36).2.1 (TX12 36).2.2.1 ∈ gTB := gTm (i := 1480) (by decide +kernel) rfl
theorem lk_fRX12_101 : Cond.fieldLink RX12 101 RX12 (TX12 37).2.1 (TX12 37).2.2.1 ∈ gTB := gTm (i := 1481) (by decide +kernel) rfl
theorem lk_fRX12_104 : Cond.fieldLink RX12 104 RX12 (TX12 38).2.1 (TX12 38).2.2.1 ∈ gTB := gTm (i := 1482) (by decide +kernel) rfl
theorem lk_fRX12_107 : Cond.fieldLink RX12 107 RX12 (TX12 40).2.1 (TX12 40).2.2.1 ∈ gTB := gTm (i := 1484) (by decide +kernel) rfl
theorem lk_fRX12_110 : Cond.fieldLink RX12 110 RX12 (TX12 41).2.1 (TX12 41).2.2.1 ∈ gTB := gTm (i := 1485) (by decide +kernel) rfl
theorem lk_fRX12_113 : Cond.fieldLink RX12 113 RX12 (TX12 42).2.1 (TX12 42).2.2.1 ∈ gTB := gTm (i := 1486) (by decide +kernel) rfl
theorem lk_fRX12_122 : Cond.fieldLink RX12 122 RX12 (TX12 46).2.1 (TX12 46).2.2.1 ∈ gTB := gTm (i := 1490) (by decide +kernel) rfl
theorem lk_fRX12_125 : Cond.fieldLink RX12 125 RX12 (TX12 47).2.1 (TX12 47).2.2.1 ∈ gTB := gTm (i := 1491) (by decide +kernel) rfl
theorem lk_fRX12_128 : Cond.fieldLink RX12 128 RX12 (TX12 48).2.1 (TX12 48).2.2.1 ∈ gTB := gTm (i := 1492) (by decide +kernel) rfl
theorem lk_fRX12_131 : Cond.fieldLink RX12 131 RX12 (TX12 49).2.1 (TX12 49).2.2.1 ∈ gTB := gTm (i := 1493) (by decide +kernel) rfl
theorem lk_fRX12_134 : Cond.fieldLink RX12 134 RX12 (TX12 50).2.1 (TX12 50).2.2.1 ∈ gTB := gTm (i := 1494) (by decide +kernel) rfl
theorem lk_fRX12_137 : Cond.fieldLink RX12 137 RX12 (TX12 51).2.1 (TX12 51).2.2.1 ∈ gTB := gTm (i := 1495) (by decide +kernel) rfl
theorem lk_fRX12_146 : Cond.fieldLink RX12 146 RX12 (TX12 54).2.1 (TX12 54).2.2.1 ∈ gTB := gTm (i := 1498) (by decide +kernel) rfl
theorem lk_fRX12_149 : Cond.fieldLink RX12 149 RX12 (TX12 55).2.1 (TX12 55).2.2.1 ∈ gTB := gTm (i := 1499) (by decide +kernel) rfl
theorem lk_fRX12_152 : Cond.fieldLink RX12 152 RX12 (TX12 56).2.1 (TX12 56).2.2.1 ∈ gTB := gTm (i := 1500) (by decide +kernel) rfl
theorem lk_fRX12_155 : Cond.fieldLink RX12 155 RX12 (TX12 57).2.1 (TX12 57).2.2.1 ∈ gTB := gTm (i := 1501) (by decide +kernel) rfl
theorem lk_fRX12_164 : Cond.fieldLink RX12 164 RX12 (TX12 60).2.1 (TX12 60).2.2.1 ∈ gTB := gTm (i := 1504) (by decide +kernel) rfl
theorem lk_fRX12_173 : Cond.fieldLink RX12 173 RX12 (TX12 63).2.1 (TX12 63).2.2.1 ∈ gTB := gTm (i := 1507) (by decide +kernel) rfl
theorem lk_fRX12_196 : Cond.fieldLink RX12 196 RX12 (TX12 45).2.1 (TX12 45).2.2.1 ∈ gTB := gTm (i := 1489) (by decide +kernel) rfl
theorem lk_fRX12_359 : Cond.fieldLink RX12 359 RX12 (TX12 3).2.1 (TX12 3).2.2.1 ∈ gTB := gTm (i := 1447) (by decide +kernel) rfl
theorem lk_mRX12_183 : Cond.methodLink RX12 183 yX12_isIn ∈ gTB := gTm (i := 1652) (by decide +kernel) rfl
theorem lk_s_X12_isIn : Cond.static yX12_isIn ∈ gTB := gTm (i := 1653) (by decide +kernel) rfl
theorem lk_n_RX12 : Cond.initialized RX12 ∈ gTB := gTm (i := 11) (by decide +kernel) rfl
theorem lk_c_X12_isIn : Cond.code yX12_isIn cX12_isIn 3 (some .boolean) ∈ gTB := gTm (i := 1654) (by decide +kernel) rfl
theorem lk_sRX12_183 : ∀ w ∈ wsS RX12 183 yX12_isIn (gW yX12_isIn cX12_isIn 3 (some .boolean)), w ∈ gTB := gS_in lk_mRX12_183 lk_s_X12_isIn lk_n_RX12 lk_c_X12_isIn
theorem lk_mRX12_199 : Cond.methodLink RX12 199 yX12_isOn ∈ gTB := gTm (i := 1663) (by decide +kernel) rfl
theorem lk_i_X12_isOn : Cond.instanceMethod yX12_isOn ∈ gTB := gTm (i := 1665) (by decide +kernel) rfl
theorem lk_e_X12_isOn : Cond.selects RX12 yX12_isOn yX12_isOn ∈ gTB := gTp (i := 53) (q := (yX12_isOn, 65)) (by decide +kernel)
theorem lk_c_X12_isOn : Cond.code yX12_isOn cX12_isOn 2 (some .boolean) ∈ gTB := gTm (i := 1666) (by decide +kernel) rfl
theorem lk_vRX12_199 : ∀ w ∈ wsV RX12 199 RX12 yX12_isOn (gW yX12_isOn cX12_isOn 2 (some .boolean)), w ∈ gTB := gV_in lk_mRX12_199 lk_i_X12_isOn lk_e_X12_isOn lk_n_RX12 lk_c_X12_isOn
theorem lk_mRX12_350 : Cond.methodLink RX12 350 yX12_nextOf ∈ gTB := gTm (i := 1925) (by decide +kernel) rfl
theorem lk_i_X12_nextOf : Cond.instanceMethod yX12_nextOf ∈ gTB := gTm (i := 1927) (by decide +kernel) rfl
theorem lk_e_X12_nextOf : Cond.selects RX12 yX12_nextOf yX12_nextOf ∈ gTB := gTp (i := 91) (q := (yX12_nextOf, 65)) (by decide +kernel)
theorem lk_c_X12_nextOf : Cond.code yX12_nextOf cX12_nextOf 4 (some .int) ∈ gTB := gTm (i := 1928) (by decide +kernel) rfl
theorem lk_vRX12_350 : ∀ w ∈ wsV RX12 350 RX12 yX12_nextOf (gW yX12_nextOf cX12_nextOf 4 (some .int)), w ∈ gTB := gV_in lk_mRX12_350 lk_i_X12_nextOf lk_e_X12_nextOf lk_n_RX12 lk_c_X12_nextOf
theorem lk_fRX12_190 : Cond.fieldLink RX12 190 RX12 (TX12 22).2.1 (TX12 22).2.2.1 ∈ gTB := gTm (i := 1466) (by decide +kernel) rfl
theorem lk_fRX12_193 : Cond.fieldLink RX12 193 RX12 (TX12 27).2.1 (TX12 27).2.2.1 ∈ gTB := gTm (i := 1471) (by decide +kernel) rfl
theorem lk_mRX12_281 : Cond.methodLink RX12 281 yX12_less ∈ gTB := gTm (i := 1804) (by decide +kernel) rfl
theorem lk_s_X12_less : Cond.static yX12_less ∈ gTB := gTm (i := 1805) (by decide +kernel) rfl
theorem lk_c_X12_less : Cond.code yX12_less cX12_less 2 (some .int) ∈ gTB := gTm (i := 1806) (by decide +kernel) rfl
theorem lk_sRX12_281 : ∀ w ∈ wsS RX12 281 yX12_less (gW yX12_less cX12_less 2 (some .int)), w ∈ gTB := gS_in lk_mRX12_281 lk_s_X12_less lk_n_RX12 lk_c_X12_less
theorem lk_mRX12_344 : Cond.methodLink RX12 344 yX12_ends ∈ gTB := gTm (i := 1901) (by decide +kernel) rfl
theorem lk_i_X12_ends : Cond.instanceMethod yX12_ends ∈ gTB := gTm (i := 1903) (by decide +kernel) rfl
theorem lk_e_X12_ends : Cond.selects RX12 yX12_ends yX12_ends ∈ gTB := gTp (i := 85) (q := (yX12_ends, 65)) (by decide +kernel)
theorem lk_c_X12_ends : Cond.code yX12_ends cX12_ends 7 none ∈ gTB := gTm (i := 1904) (by decide +kernel) rfl
theorem lk_vRX12_344 : ∀ w ∈ wsV RX12 344 RX12 yX12_ends (gW yX12_ends cX12_ends 7 none), w ∈ gTB := gV_in lk_mRX12_344 lk_i_X12_ends lk_e_X12_ends lk_n_RX12 lk_c_X12_ends
theorem lk_mRX12_302 : Cond.methodLink RX12 302 yX12_isFor ∈ gTB := gTm (i := 1854) (by decide +kernel) rfl
theorem lk_i_X12_isFor : Cond.instanceMethod yX12_isFor ∈ gTB := gTm (i := 1856) (by decide +kernel) rfl
theorem lk_e_X12_isFor : Cond.selects RX12 yX12_isFor yX12_isFor ∈ gTB := gTp (i := 76) (q := (yX12_isFor, 65)) (by decide +kernel)
theorem lk_c_X12_isFor : Cond.code yX12_isFor cX12_isFor 3 (some .boolean) ∈ gTB := gTm (i := 1857) (by decide +kernel) rfl
theorem lk_vRX12_302 : ∀ w ∈ wsV RX12 302 RX12 yX12_isFor (gW yX12_isFor cX12_isFor 3 (some .boolean)), w ∈ gTB := gV_in lk_mRX12_302 lk_i_X12_isFor lk_e_X12_isFor lk_n_RX12 lk_c_X12_isFor
theorem lk_mRX12_274 : Cond.methodLink RX12 274 yX12_makes ∈ gTB := gTm (i := 1788) (by decide +kernel) rfl
theorem lk_i_X12_makes : Cond.instanceMethod yX12_makes ∈ gTB := gTm (i := 1790) (by decide +kernel) rfl
theorem lk_e_X12_makes : Cond.selects RX12 yX12_makes yX12_makes ∈ gTB := gTp (i := 68) (q := (yX12_makes, 65)) (by decide +kernel)
theorem lk_c_X12_makes : Cond.code yX12_makes cX12_makes 7 (some .int) ∈ gTB := gTm (i := 1791) (by decide +kernel) rfl
theorem lk_vRX12_274 : ∀ w ∈ wsV RX12 274 RX12 yX12_makes (gW yX12_makes cX12_makes 7 (some .int)), w ∈ gTB := gV_in lk_mRX12_274 lk_i_X12_makes lk_e_X12_makes lk_n_RX12 lk_c_X12_makes
theorem lk_mRX12_305 : Cond.methodLink RX12 305 yX12_gives ∈ gTB := gTm (i := 1865) (by decide +kernel) rfl
theorem lk_i_X12_gives : Cond.instanceMethod yX12_gives ∈ gTB := gTm (i := 1867) (by decide +kernel) rfl
theorem lk_e_X12_gives : Cond.selects RX12 yX12_gives yX12_gives ∈ gTB := gTp (i := 78) (q := (yX12_gives, 65)) (by decide +kernel)
theorem lk_c_X12_gives : Cond.code yX12_gives cX12_gives 3 none ∈ gTB := gTm (i := 1868) (by decide +kernel) rfl
theorem lk_vRX12_305 : ∀ w ∈ wsV RX12 305 RX12 yX12_gives (gW yX12_gives cX12_gives 3 none), w ∈ gTB := gV_in lk_mRX12_305 lk_i_X12_gives lk_e_X12_gives lk_n_RX12 lk_c_X12_gives
theorem lk_mRX12_250 : Cond.methodLink RX12 250 yX12_books ∈ gTB := gTm (i := 1748) (by decide +kernel) rfl
theorem lk_i_X12_books : Cond.instanceMethod yX12_books ∈ gTB := gTm (i := 1750) (by decide +kernel) rfl
theorem lk_e_X12_books : Cond.selects RX12 yX12_books yX12_books ∈ gTB := gTp (i := 62) (q := (yX12_books, 65)) (by decide +kernel)
theorem lk_c_X12_books : Cond.code yX12_books cX12_books 4 none ∈ gTB := gTm (i := 1751) (by decide +kernel) rfl
theorem lk_vRX12_250 : ∀ w ∈ wsV RX12 250 RX12 yX12_books (gW yX12_books cX12_books 4 none), w ∈ gTB := gV_in lk_mRX12_250 lk_i_X12_books lk_e_X12_books lk_n_RX12 lk_c_X12_books
theorem lk_mRX12_341 : Cond.methodLink RX12 341 yX12_tidies ∈ gTB := gTm (i := 1905) (by decide +kernel) rfl
theorem lk_i_X12_tidies : Cond.instanceMethod yX12_tidies ∈ gTB := gTm (i := 1907) (by decide +kernel) rfl
theorem lk_e_X12_tidies : Cond.selects RX12 yX12_tidies yX12_tidies ∈ gTB := gTp (i := 86) (q := (yX12_tidies, 65)) (by decide +kernel)
theorem lk_c_X12_tidies : Cond.code yX12_tidies cX12_tidies 3 none ∈ gTB := gTm (i := 1908) (by decide +kernel) rfl
theorem lk_vRX12_341 : ∀ w ∈ wsV RX12 341 RX12 yX12_tidies (gW yX12_tidies cX12_tidies 3 none), w ∈ gTB := gV_in lk_mRX12_341 lk_i_X12_tidies lk_e_X12_tidies lk_n_RX12 lk_c_X12_tidies
theorem lk_mRX12_223 : Cond.methodLink RX12 223 yX12_holds ∈ gTB := gTm (i := 1671) (by decide +kernel) rfl
theorem lk_i_X12_holds : Cond.instanceMethod yX12_holds ∈ gTB := gTm (i := 1673) (by decide +kernel) rfl
theorem lk_e_X12_holds : Cond.selects RX12 yX12_holds yX12_holds ∈ gTB := gTp (i := 55) (q := (yX12_holds, 65)) (by decide +kernel)
theorem lk_c_X12_holds : Cond.code yX12_holds cX12_holds 2 (some .boolean) ∈ gTB := gTm (i := 1674) (by decide +kernel) rfl
theorem lk_vRX12_223 : ∀ w ∈ wsV RX12 223 RX12 yX12_holds (gW yX12_holds cX12_holds 2 (some .boolean)), w ∈ gTB := gV_in lk_mRX12_223 lk_i_X12_holds lk_e_X12_holds lk_n_RX12 lk_c_X12_holds
theorem lk_mRX12_365 : Cond.methodLink RX12 365 yX12_fitsInto ∈ gTB := gTm (i := 1973) (by decide +kernel) rfl
theorem lk_i_X12_fitsInto : Cond.instanceMethod yX12_fitsInto ∈ gTB := gTm (i := 1975) (by decide +kernel) rfl
theorem lk_e_X12_fitsInto : Cond.selects RX12 yX12_fitsInto yX12_fitsInto ∈ gTB := gTp (i := 94) (q := (yX12_fitsInto, 65)) (by decide +kernel)
theorem lk_c_X12_fitsInto : Cond.code yX12_fitsInto cX12_fitsInto 6 (some .boolean) ∈ gTB := gTm (i := 1976) (by decide +kernel) rfl
theorem lk_vRX12_365 : ∀ w ∈ wsV RX12 365 RX12 yX12_fitsInto (gW yX12_fitsInto cX12_fitsInto 6 (some .boolean)), w ∈ gTB := gV_in lk_mRX12_365 lk_i_X12_fitsInto lk_e_X12_fitsInto lk_n_RX12 lk_c_X12_fitsInto
theorem lk_mRX12_214 : Cond.methodLink RX12 214 yX12_itemIn ∈ gTB := gTm (i := 1667) (by decide +kernel) rfl
theorem lk_i_X12_itemIn : Cond.instanceMethod yX12_itemIn ∈ gTB := gTm (i := 1669) (by decide +kernel) rfl
theorem lk_e_X12_itemIn : Cond.selects RX12 yX12_itemIn yX12_itemIn ∈ gTB := gTp (i := 54) (q := (yX12_itemIn, 65)) (by decide +kernel)
theorem lk_c_X12_itemIn : Cond.code yX12_itemIn cX12_itemIn 5 (some .int) ∈ gTB := gTm (i := 1670) (by decide +kernel) rfl
theorem lk_vRX12_214 : ∀ w ∈ wsV RX12 214 RX12 yX12_itemIn (gW yX12_itemIn cX12_itemIn 5 (some .int)), w ∈ gTB := gV_in lk_mRX12_214 lk_i_X12_itemIn lk_e_X12_itemIn lk_n_RX12 lk_c_X12_itemIn
theorem lk_mRX12_229 : Cond.methodLink RX12 229 yX12_isGroup ∈ gTB := gTm (i := 1686) (by decide +kernel) rfl
theorem lk_s_X12_isGroup : Cond.static yX12_isGroup ∈ gTB := gTm (i := 1687) (by decide +kernel) rfl
theorem lk_c_X12_isGroup : Cond.code yX12_isGroup cX12_isGroup 1 (some .boolean) ∈ gTB := gTm (i := 1688) (by decide +kernel) rfl
theorem lk_sRX12_229 : ∀ w ∈ wsS RX12 229 yX12_isGroup (gW yX12_isGroup cX12_isGroup 1 (some .boolean)), w ∈ gTB := gS_in lk_mRX12_229 lk_s_X12_isGroup lk_n_RX12 lk_c_X12_isGroup
theorem lk_mRX12_371 : Cond.methodLink RX12 371 yX12_packs ∈ gTB := gTm (i := 1969) (by decide +kernel) rfl
theorem lk_i_X12_packs : Cond.instanceMethod yX12_packs ∈ gTB := gTm (i := 1971) (by decide +kernel) rfl
theorem lk_e_X12_packs : Cond.selects RX12 yX12_packs yX12_packs ∈ gTB := gTp (i := 93) (q := (yX12_packs, 65)) (by decide +kernel)
theorem lk_c_X12_packs : Cond.code yX12_packs cX12_packs 7 (some .int) ∈ gTB := gTm (i := 1972) (by decide +kernel) rfl
theorem lk_vRX12_371 : ∀ w ∈ wsV RX12 371 RX12 yX12_packs (gW yX12_packs cX12_packs 7 (some .int)), w ∈ gTB := gV_in lk_mRX12_371 lk_i_X12_packs lk_e_X12_packs lk_n_RX12 lk_c_X12_packs
theorem lk_mRX12_247 : Cond.methodLink RX12 247 yX12_isNotice ∈ gTB := gTm (i := 1744) (by decide +kernel) rfl
theorem lk_i_X12_isNotice : Cond.instanceMethod yX12_isNotice ∈ gTB := gTm (i := 1746) (by decide +kernel) rfl
theorem lk_e_X12_isNotice : Cond.selects RX12 yX12_isNotice yX12_isNotice ∈ gTB := gTp (i := 61) (q := (yX12_isNotice, 65)) (by decide +kernel)
theorem lk_c_X12_isNotice : Cond.code yX12_isNotice cX12_isNotice 2 (some .boolean) ∈ gTB := gTm (i := 1747) (by decide +kernel) rfl
theorem lk_vRX12_247 : ∀ w ∈ wsV RX12 247 RX12 yX12_isNotice (gW yX12_isNotice cX12_isNotice 2 (some .boolean)), w ∈ gTB := gV_in lk_mRX12_247 lk_i_X12_isNotice lk_e_X12_isNotice lk_n_RX12 lk_c_X12_isNotice
theorem lk_mRX12_257 : Cond.methodLink RX12 257 yX12_cameOf ∈ gTB := gTm (i := 1756) (by decide +kernel) rfl
theorem lk_i_X12_cameOf : Cond.instanceMethod yX12_cameOf ∈ gTB := gTm (i := 1758) (by decide +kernel) rfl
theorem lk_e_X12_cameOf : Cond.selects RX12 yX12_cameOf yX12_cameOf ∈ gTB := gTp (i := 63) (q := (yX12_cameOf, 65)) (by decide +kernel)
theorem lk_c_X12_cameOf : Cond.code yX12_cameOf cX12_cameOf 5 (some .int) ∈ gTB := gTm (i := 1759) (by decide +kernel) rfl
theorem lk_vRX12_257 : ∀ w ∈ wsV RX12 257 RX12 yX12_cameOf (gW yX12_cameOf cX12_cameOf 5 (some .int)), w ∈ gTB := gV_in lk_mRX12_257 lk_i_X12_cameOf lk_e_X12_cameOf lk_n_RX12 lk_c_X12_cameOf
theorem lk_mRX12_287 : Cond.methodLink RX12 287 yX12_isOrder ∈ gTB := gTm (i := 1815) (by decide +kernel) rfl
theorem lk_i_X12_isOrder : Cond.instanceMethod yX12_isOrder ∈ gTB := gTm (i := 1817) (by decide +kernel) rfl
theorem lk_e_X12_isOrder : Cond.selects RX12 yX12_isOrder yX12_isOrder ∈ gTB := gTp (i := 71) (q := (yX12_isOrder, 65)) (by decide +kernel)
theorem lk_c_X12_isOrder : Cond.code yX12_isOrder cX12_isOrder 2 (some .boolean) ∈ gTB := gTm (i := 1818) (by decide +kernel) rfl
theorem lk_vRX12_287 : ∀ w ∈ wsV RX12 287 RX12 yX12_isOrder (gW yX12_isOrder cX12_isOrder 2 (some .boolean)), w ∈ gTB := gV_in lk_mRX12_287 lk_i_X12_isOrder lk_e_X12_isOrder lk_n_RX12 lk_c_X12_isOrder
theorem lk_mRX12_244 : Cond.methodLink RX12 244 yX12_arePieces ∈ gTB := gTm (i := 1737) (by decide +kernel) rfl
theorem lk_s_X12_arePieces : Cond.static yX12_arePieces ∈ gTB := gTm (i := 1738) (by decide +kernel) rfl
theorem lk_c_X12_arePieces : Cond.code yX12_arePieces cX12_arePieces 1 (some .boolean) ∈ gTB := gTm (i := 1739) (by decide +kernel) rfl
theorem lk_sRX12_244 : ∀ w ∈ wsS RX12 244 yX12_arePieces (gW yX12_arePieces cX12_arePieces 1 (some .boolean)), w ∈ gTB := gS_in lk_mRX12_244 lk_s_X12_arePieces lk_n_RX12 lk_c_X12_arePieces
theorem lk_mRX12_232 : Cond.methodLink RX12 232 yX12_isLot ∈ gTB := gTm (i := 1705) (by decide +kernel) rfl
theorem lk_i_X12_isLot : Cond.instanceMethod yX12_isLot ∈ gTB := gTm (i := 1707) (by decide +kernel) rfl
theorem lk_e_X12_isLot : Cond.selects RX12 yX12_isLot yX12_isLot ∈ gTB := gTp (i := 57) (q := (yX12_isLot, 65)) (by decide +kernel)
theorem lk_c_X12_isLot : Cond.code yX12_isLot cX12_isLot 2 (some .boolean) ∈ gTB := gTm (i := 1708) (by decide +kernel) rfl
theorem lk_vRX12_232 : ∀ w ∈ wsV RX12 232 RX12 yX12_isLot (gW yX12_isLot cX12_isLot 2 (some .boolean)), w ∈ gTB := gV_in lk_mRX12_232 lk_i_X12_isLot lk_e_X12_isLot lk_n_RX12 lk_c_X12_isLot
theorem lk_mRX12_309 : Cond.methodLink RX12 309 yX12_isRobot ∈ gTB := gTm (i := 1847) (by decide +kernel) rfl
theorem lk_s_X12_isRobot : Cond.static yX12_isRobot ∈ gTB := gTm (i := 1848) (by decide +kernel) rfl
theorem lk_c_X12_isRobot : Cond.code yX12_isRobot cX12_isRobot 1 (some .boolean) ∈ gTB := gTm (i := 1849) (by decide +kernel) rfl
theorem lk_sRX12_309 : ∀ w ∈ wsS RX12 309 yX12_isRobot (gW yX12_isRobot cX12_isRobot 1 (some .boolean)), w ∈ gTB := gS_in lk_mRX12_309 lk_s_X12_isRobot lk_n_RX12 lk_c_X12_isRobot
theorem lk_mRX12_217 : Cond.methodLink RX12 217 yX12_isSlot ∈ gTB := gTm (i := 1649) (by decide +kernel) rfl
theorem lk_s_X12_isSlot : Cond.static yX12_isSlot ∈ gTB := gTm (i := 1650) (by decide +kernel) rfl
theorem lk_c_X12_isSlot : Cond.code yX12_isSlot cX12_isSlot 1 (some .boolean) ∈ gTB := gTm (i := 1651) (by decide +kernel) rfl
theorem lk_sRX12_217 : ∀ w ∈ wsS RX12 217 yX12_isSlot (gW yX12_isSlot cX12_isSlot 1 (some .boolean)), w ∈ gTB := gS_in lk_mRX12_217 lk_s_X12_isSlot lk_n_RX12 lk_c_X12_isSlot
theorem lk_mRX12_206 : Cond.methodLink RX12 206 yX12_heldAt ∈ gTB := gTm (i := 1721) (by decide +kernel) rfl
theorem lk_i_X12_heldAt : Cond.instanceMethod yX12_heldAt ∈ gTB := gTm (i := 1723) (by decide +kernel) rfl
theorem lk_e_X12_heldAt : Cond.selects RX12 yX12_heldAt yX12_heldAt ∈ gTB := gTp (i := 59) (q := (yX12_heldAt, 65)) (by decide +kernel)
theorem lk_c_X12_heldAt : Cond.code yX12_heldAt cX12_heldAt 5 (some .int) ∈ gTB := gTm (i := 1724) (by decide +kernel) rfl
theorem lk_vRX12_206 : ∀ w ∈ wsV RX12 206 RX12 yX12_heldAt (gW yX12_heldAt cX12_heldAt 5 (some .int)), w ∈ gTB := gV_in lk_mRX12_206 lk_i_X12_heldAt lk_e_X12_heldAt lk_n_RX12 lk_c_X12_heldAt
theorem lk_mRX12_321 : Cond.methodLink RX12 321 yX12_isTask ∈ gTB := gTm (i := 1873) (by decide +kernel) rfl
theorem lk_i_X12_isTask : Cond.instanceMethod yX12_isTask ∈ gTB := gTm (i := 1875) (by decide +kernel) rfl
theorem lk_e_X12_isTask : Cond.selects RX12 yX12_isTask yX12_isTask ∈ gTB := gTp (i := 79) (q := (yX12_isTask, 65)) (by decide +kernel)
theorem lk_c_X12_isTask : Cond.code yX12_isTask cX12_isTask 2 (some .boolean) ∈ gTB := gTm (i := 1876) (by decide +kernel) rfl
theorem lk_vRX12_321 : ∀ w ∈ wsV RX12 321 RX12 yX12_isTask (gW yX12_isTask cX12_isTask 2 (some .boolean)), w ∈ gTB := gV_in lk_mRX12_321 lk_i_X12_isTask lk_e_X12_isTask lk_n_RX12 lk_c_X12_isTask
theorem lk_mRX12_261 : Cond.methodLink RX12 261 yX12_standsIn ∈ gTB := gTm (i := 1784) (by decide +kernel) rfl
theorem lk_i_X12_standsIn : Cond.instanceMethod yX12_standsIn ∈ gTB := gTm (i := 1786) (by decide +kernel) rfl
theorem lk_e_X12_standsIn : Cond.selects RX12 yX12_standsIn yX12_standsIn ∈ gTB := gTp (i := 67) (q := (yX12_standsIn, 65)) (by decide +kernel)
theorem lk_c_X12_standsIn : Cond.code yX12_standsIn cX12_standsIn 5 (some .boolean) ∈ gTB := gTm (i := 1787) (by decide +kernel) rfl
theorem lk_vRX12_261 : ∀ w ∈ wsV RX12 261 RX12 yX12_standsIn (gW yX12_standsIn cX12_standsIn 5 (some .boolean)), w ∈ gTB := gV_in lk_mRX12_261 lk_i_X12_standsIn lk_e_X12_standsIn lk_n_RX12 lk_c_X12_standsIn
theorem lk_mRX12_210 : Cond.methodLink RX12 210 yX12_roomHeld ∈ gTB := gTm (i := 1659) (by decide +kernel) rfl
theorem lk_i_X12_roomHeld : Cond.instanceMethod yX12_roomHeld ∈ gTB := gTm (i := 1661) (by decide +kernel) rfl
theorem lk_e_X12_roomHeld : Cond.selects RX12 yX12_roomHeld yX12_roomHeld ∈ gTB := gTp (i := 52) (q := (yX12_roomHeld, 65)) (by decide +kernel)
theorem lk_c_X12_roomHeld : Cond.code yX12_roomHeld cX12_roomHeld 4 (some .int) ∈ gTB := gTm (i := 1662) (by decide +kernel) rfl
theorem lk_vRX12_210 : ∀ w ∈ wsV RX12 210 RX12 yX12_roomHeld (gW yX12_roomHeld cX12_roomHeld 4 (some .int)), w ∈ gTB := gV_in lk_mRX12_210 lk_i_X12_roomHeld lk_e_X12_roomHeld lk_n_RX12 lk_c_X12_roomHeld
theorem lk_mRX12_226 : Cond.methodLink RX12 226 yX12_isItem ∈ gTB := gTm (i := 1679) (by decide +kernel) rfl
theorem lk_s_X12_isItem : Cond.static yX12_isItem ∈ gTB := gTm (i := 1680) (by decide +kernel) rfl
theorem lk_c_X12_isItem : Cond.code yX12_isItem cX12_isItem 1 (some .boolean) ∈ gTB := gTm (i := 1681) (by decide +kernel) rfl
theorem lk_sRX12_226 : ∀ w ∈ wsS RX12 226 yX12_isItem (gW yX12_isItem cX12_isItem 1 (some .boolean)), w ∈ gTB := gS_in lk_mRX12_226 lk_s_X12_isItem lk_n_RX12 lk_c_X12_isItem
theorem lk_mRX12_290 : Cond.methodLink RX12 290 yX12_lacking ∈ gTB := gTm (i := 1831) (by decide +kernel) rfl
theorem lk_i_X12_lacking : Cond.instanceMethod yX12_lacking ∈ gTB := gTm (i := 1833) (by decide +kernel) rfl
theorem lk_e_X12_lacking : Cond.selects RX12 yX12_lacking yX12_lacking ∈ gTB := gTp (i := 74) (q := (yX12_lacking, 65)) (by decide +kernel)
theorem lk_c_X12_lacking : Cond.code yX12_lacking cX12_lacking 4 (some .int) ∈ gTB := gTm (i := 1834) (by decide +kernel) rfl
theorem lk_vRX12_290 : ∀ w ∈ wsV RX12 290 RX12 yX12_lacking (gW yX12_lacking cX12_lacking 4 (some .int)), w ∈ gTB := gV_in lk_mRX12_290 lk_i_X12_lacking lk_e_X12_lacking lk_n_RX12 lk_c_X12_lacking
theorem lk_mRX12_347 : Cond.methodLink RX12 347 yX12_keeps ∈ gTB := gTm (i := 1913) (by decide +kernel) rfl
theorem lk_i_X12_keeps : Cond.instanceMethod yX12_keeps ∈ gTB := gTm (i := 1915) (by decide +kernel) rfl
theorem lk_e_X12_keeps : Cond.selects RX12 yX12_keeps yX12_keeps ∈ gTB := gTp (i := 88) (q := (yX12_keeps, 65)) (by decide +kernel)
theorem lk_c_X12_keeps : Cond.code yX12_keeps cX12_keeps 3 (some .int) ∈ gTB := gTm (i := 1916) (by decide +kernel) rfl
theorem lk_vRX12_347 : ∀ w ∈ wsV RX12 347 RX12 yX12_keeps (gW yX12_keeps cX12_keeps 3 (some .int)), w ∈ gTB := gV_in lk_mRX12_347 lk_i_X12_keeps lk_e_X12_keeps lk_n_RX12 lk_c_X12_keeps
theorem lk_mRX12_312 : Cond.methodLink RX12 312 yX12_picks ∈ gTB := gTm (i := 1850) (by decide +kernel) rfl
theorem lk_i_X12_picks : Cond.instanceMethod yX12_picks ∈ gTB := gTm (i := 1852) (by decide +kernel) rfl
theorem lk_e_X12_picks : Cond.selects RX12 yX12_picks yX12_picks ∈ gTB := gTp (i := 75) (q := (yX12_picks, 65)) (by decide +kernel)
theorem lk_c_X12_picks : Cond.code yX12_picks cX12_picks 4 (some .int) ∈ gTB := gTm (i := 1853) (by decide +kernel) rfl
theorem lk_vRX12_312 : ∀ w ∈ wsV RX12 312 RX12 yX12_picks (gW yX12_picks cX12_picks 4 (some .int)), w ∈ gTB := gV_in lk_mRX12_312 lk_i_X12_picks lk_e_X12_picks lk_n_RX12 lk_c_X12_picks
theorem lk_mRX12_315 : Cond.methodLink RX12 315 yX12_slotAt ∈ gTB := gTm (i := 1858) (by decide +kernel) rfl
theorem lk_s_X12_slotAt : Cond.static yX12_slotAt ∈ gTB := gTm (i := 1859) (by decide +kernel) rfl
theorem lk_c_X12_slotAt : Cond.code yX12_slotAt cX12_slotAt 1 (some .int) ∈ gTB := gTm (i := 1860) (by decide +kernel) rfl
theorem lk_sRX12_315 : ∀ w ∈ wsS RX12 315 yX12_slotAt (gW yX12_slotAt cX12_slotAt 1 (some .int)), w ∈ gTB := gS_in lk_mRX12_315 lk_s_X12_slotAt lk_n_RX12 lk_c_X12_slotAt
theorem lk_mRX12_318 : Cond.methodLink RX12 318 yX12_makesPicks ∈ gTB := gTm (i := 1861) (by decide +kernel) rfl
theorem lk_i_X12_makesPicks : Cond.instanceMethod yX12_makesPicks ∈ gTB := gTm (i := 1863) (by decide +kernel) rfl
theorem lk_e_X12_makesPicks : Cond.selects RX12 yX12_makesPicks yX12_makesPicks ∈ gTB := gTp (i := 77) (q := (yX12_makesPicks, 65)) (by decide +kernel)
theorem lk_c_X12_makesPicks : Cond.code yX12_makesPicks cX12_makesPicks 8 none ∈ gTB := gTm (i := 1864) (by decide +kernel) rfl
theorem lk_vRX12_318 : ∀ w ∈ wsV RX12 318 RX12 yX12_makesPicks (gW yX12_makesPicks cX12_makesPicks 8 none), w ∈ gTB := gV_in lk_mRX12_318 lk_i_X12_makesPicks lk_e_X12_makesPicks lk_n_RX12 lk_c_X12_makesPicks
theorem lk_mRX12_368 : Cond.methodLink RX12 368 yX12_boxesOf ∈ gTB := gTm (i := 1965) (by decide +kernel) rfl
theorem lk_i_X12_boxesOf : Cond.instanceMethod yX12_boxesOf ∈ gTB := gTm (i := 1967) (by decide +kernel) rfl
theorem lk_e_X12_boxesOf : Cond.selects RX12 yX12_boxesOf yX12_boxesOf ∈ gTB := gTp (i := 92) (q := (yX12_boxesOf, 65)) (by decide +kernel)
theorem lk_c_X12_boxesOf : Cond.code yX12_boxesOf cX12_boxesOf 2 (some .int) ∈ gTB := gTm (i := 1968) (by decide +kernel) rfl
theorem lk_vRX12_368 : ∀ w ∈ wsV RX12 368 RX12 yX12_boxesOf (gW yX12_boxesOf cX12_boxesOf 2 (some .int)), w ∈ gTB := gV_in lk_mRX12_368 lk_i_X12_boxesOf lk_e_X12_boxesOf lk_n_RX12 lk_c_X12_boxesOf
theorem lk_mRX12_337 : Cond.methodLink RX12 337 yX12_shorts ∈ gTB := gTm (i := 1909) (by decide +kernel) rfl
theorem lk_i_X12_shorts : Cond.instanceMethod yX12_shorts ∈ gTB := gTm (i := 1911) (by decide +kernel) rfl
theorem lk_e_X12_shorts : Cond.selects RX12 yX12_shorts yX12_shorts ∈ gTB := gTp (i := 87) (q := (yX12_shorts, 65)) (by decide +kernel)
theorem lk_c_X12_shorts : Cond.code yX12_shorts cX12_shorts 10 none ∈ gTB := gTm (i := 1912) (by decide +kernel) rfl
theorem lk_vRX12_337 : ∀ w ∈ wsV RX12 337 RX12 yX12_shorts (gW yX12_shorts cX12_shorts 10 none), w ∈ gTB := gV_in lk_mRX12_337 lk_i_X12_shorts lk_e_X12_shorts lk_n_RX12 lk_c_X12_shorts
theorem lk_mRX12_334 : Cond.methodLink RX12 334 yX12_moves ∈ gTB := gTm (i := 1897) (by decide +kernel) rfl
theorem lk_i_X12_moves : Cond.instanceMethod yX12_moves ∈ gTB := gTm (i := 1899) (by decide +kernel) rfl
theorem lk_e_X12_moves : Cond.selects RX12 yX12_moves yX12_moves ∈ gTB := gTp (i := 84) (q := (yX12_moves, 65)) (by decide +kernel)
theorem lk_c_X12_moves : Cond.code yX12_moves cX12_moves 3 none ∈ gTB := gTm (i := 1900) (by decide +kernel) rfl
theorem lk_vRX12_334 : ∀ w ∈ wsV RX12 334 RX12 yX12_moves (gW yX12_moves cX12_moves 3 none), w ∈ gTB := gV_in lk_mRX12_334 lk_i_X12_moves lk_e_X12_moves lk_n_RX12 lk_c_X12_moves
theorem lk_mRX12_220 : Cond.methodLink RX12 220 yX12_isEmpty ∈ gTB := gTm (i := 1655) (by decide +kernel) rfl
theorem lk_i_X12_isEmpty : Cond.instanceMethod yX12_isEmpty ∈ gTB := gTm (i := 1657) (by decide +kernel) rfl
theorem lk_e_X12_isEmpty : Cond.selects RX12 yX12_isEmpty yX12_isEmpty ∈ gTB := gTp (i := 51) (q := (yX12_isEmpty, 65)) (by decide +kernel)
theorem lk_c_X12_isEmpty : Cond.code yX12_isEmpty cX12_isEmpty 4 (some .boolean) ∈ gTB := gTm (i := 1658) (by decide +kernel) rfl
theorem lk_vRX12_220 : ∀ w ∈ wsV RX12 220 RX12 yX12_isEmpty (gW yX12_isEmpty cX12_isEmpty 4 (some .boolean)), w ∈ gTB := gV_in lk_mRX12_220 lk_i_X12_isEmpty lk_e_X12_isEmpty lk_n_RX12 lk_c_X12_isEmpty
theorem lk_mRX12_235 : Cond.methodLink RX12 235 yX12_isAsked ∈ gTB := gTm (i := 1701) (by decide +kernel) rfl
theorem lk_i_X12_isAsked : Cond.instanceMethod yX12_isAsked ∈ gTB := gTm (i := 1703) (by decide +kernel) rfl
theorem lk_e_X12_isAsked : Cond.selects RX12 yX12_isAsked yX12_isAsked ∈ gTB := gTp (i := 56) (q := (yX12_isAsked, 65)) (by decide +kernel)
theorem lk_c_X12_isAsked : Cond.code yX12_isAsked cX12_isAsked 4 (some .boolean) ∈ gTB := gTm (i := 1704) (by decide +kernel) rfl
theorem lk_vRX12_235 : ∀ w ∈ wsV RX12 235 RX12 yX12_isAsked (gW yX12_isAsked cX12_isAsked 4 (some .boolean)), w ∈ gTB := gV_in lk_mRX12_235 lk_i_X12_isAsked lk_e_X12_isAsked lk_n_RX12 lk_c_X12_isAsked
theorem lk_mRX12_238 : Cond.methodLink RX12 238 yX12_freeAt ∈ gTB := gTm (i := 1717) (by decide +kernel) rfl
theorem lk_i_X12_freeAt : Cond.instanceMethod yX12_freeAt ∈ gTB := gTm (i := 1719) (by decide +kernel) rfl
theorem lk_e_X12_freeAt : Cond.selects RX12 yX12_freeAt yX12_freeAt ∈ gTB := gTp (i := 58) (q := (yX12_freeAt, 65)) (by decide +kernel)
theorem lk_c_X12_freeAt : Cond.code yX12_freeAt cX12_freeAt 3 (some .int) ∈ gTB := gTm (i := 1720) (by decide +kernel) rfl
theorem lk_vRX12_238 : ∀ w ∈ wsV RX12 238 RX12 yX12_freeAt (gW yX12_freeAt cX12_freeAt 3 (some .int)), w ∈ gTB := gV_in lk_mRX12_238 lk_i_X12_freeAt lk_e_X12_freeAt lk_n_RX12 lk_c_X12_freeAt
theorem lk_mRX12_278 : Cond.methodLink RX12 278 yX12_nextLot ∈ gTB := gTm (i := 1800) (by decide +kernel) rfl
theorem lk_i_X12_nextLot : Cond.instanceMethod yX12_nextLot ∈ gTB := gTm (i := 1802) (by decide +kernel) rfl
theorem lk_e_X12_nextLot : Cond.selects RX12 yX12_nextLot yX12_nextLot ∈ gTB := gTp (i := 70) (q := (yX12_nextLot, 65)) (by decide +kernel)
theorem lk_c_X12_nextLot : Cond.code yX12_nextLot cX12_nextLot 7 (some .int) ∈ gTB := gTm (i := 1803) (by decide +kernel) rfl
theorem lk_vRX12_278 : ∀ w ∈ wsV RX12 278 RX12 yX12_nextLot (gW yX12_nextLot cX12_nextLot 7 (some .int)), w ∈ gTB := gV_in lk_mRX12_278 lk_i_X12_nextLot lk_e_X12_nextLot lk_n_RX12 lk_c_X12_nextLot
theorem lk_fRX12_293 : Cond.fieldLink RX12 293 RX12 (TX12 1).2.1 (TX12 1).2.2.1 ∈ gTB := gTm (i := 1445) (by decide +kernel) rfl
theorem lk_mRX12_265 : Cond.methodLink RX12 265 yX12_isBarredIn ∈ gTB := gTm (i := 1780) (by decide +kernel) rfl
theorem lk_i_X12_isBarredIn : Cond.instanceMethod yX12_isBarredIn ∈ gTB := gTm (i := 1782) (by decide +kernel) rfl
theorem lk_e_X12_isBarredIn : Cond.selects RX12 yX12_isBarredIn yX12_isBarredIn ∈ gTB := gTp (i := 66) (q := (yX12_isBarredIn, 65)) (by decide +kernel)
theorem lk_c_X12_isBarredIn : Cond.code yX12_isBarredIn cX12_isBarredIn 5 (some .boolean) ∈ gTB := gTm (i := 1783) (by decide +kernel) rfl
theorem lk_vRX12_265 : ∀ w ∈ wsV RX12 265 RX12 yX12_isBarredIn (gW yX12_isBarredIn cX12_isBarredIn 5 (some .boolean)), w ∈ gTB := gV_in lk_mRX12_265 lk_i_X12_isBarredIn lk_e_X12_isBarredIn lk_n_RX12 lk_c_X12_isBarredIn
theorem lk_mRX12_241 : Cond.methodLink RX12 241 yX12_roomLeft ∈ gTB := gTm (i := 1729) (by decide +kernel) rfl
theorem lk_i_X12_roomLeft : Cond.instanceMethod yX12_roomLeft ∈ gTB := gTm (i := 1731) (by decide +kernel) rfl
theorem lk_e_X12_roomLeft : Cond.selects RX12 yX12_roomLeft yX12_roomLeft ∈ gTB := gTp (i := 60) (q := (yX12_roomLeft, 65)) (by decide +kernel)
theorem lk_c_X12_roomLeft : Cond.code yX12_roomLeft cX12_roomLeft 4 (some .int) ∈ gTB := gTm (i := 1732) (by decide +kernel) rfl
theorem lk_vRX12_241 : ∀ w ∈ wsV RX12 241 RX12 yX12_roomLeft (gW yX12_roomLeft cX12_roomLeft 4 (some .int)), w ∈ gTB := gV_in lk_mRX12_241 lk_i_X12_roomLeft lk_e_X12_roomLeft lk_n_RX12 lk_c_X12_roomLeft
theorem lk_mRX12_296 : Cond.methodLink RX12 296 yX12_holdsFor ∈ gTB := gTm (i := 1827) (by decide +kernel) rfl
theorem lk_i_X12_holdsFor : Cond.instanceMethod yX12_holdsFor ∈ gTB := gTm (i := 1829) (by decide +kernel) rfl
theorem lk_e_X12_holdsFor : Cond.selects RX12 yX12_holdsFor yX12_holdsFor ∈ gTB := gTp (i := 73) (q := (yX12_holdsFor, 65)) (by decide +kernel)
theorem lk_c_X12_holdsFor : Cond.code yX12_holdsFor cX12_holdsFor 12 (some .int) ∈ gTB := gTm (i := 1830) (by decide +kernel) rfl
theorem lk_vRX12_296 : ∀ w ∈ wsV RX12 296 RX12 yX12_holdsFor (gW yX12_holdsFor cX12_holdsFor 12 (some .int)), w ∈ gTB := gV_in lk_mRX12_296 lk_i_X12_holdsFor lk_e_X12_holdsFor lk_n_RX12 lk_c_X12_holdsFor
theorem lk_mRX12_331 : Cond.methodLink RX12 331 yX12_isHeldByOther ∈ gTB := gTm (i := 1917) (by decide +kernel) rfl
theorem lk_i_X12_isHeldByOther : Cond.instanceMethod yX12_isHeldByOther ∈ gTB := gTm (i := 1919) (by decide +kernel) rfl
theorem lk_e_X12_isHeldByOther : Cond.selects RX12 yX12_isHeldByOther yX12_isHeldByOther ∈ gTB := gTp (i := 89) (q := (yX12_isHeldByOther, 65)) (by decide +kernel)
theorem lk_c_X12_isHeldByOther : Cond.code yX12_isHeldByOther cX12_isHeldByOther 5 (some .boolean) ∈ gTB := gTm (i := 1920) (by decide +kernel) rfl
theorem lk_vRX12_331 : ∀ w ∈ wsV RX12 331 RX12 yX12_isHeldByOther (gW yX12_isHeldByOther cX12_isHeldByOther 5 (some .boolean)), w ∈ gTB := gV_in lk_mRX12_331 lk_i_X12_isHeldByOther lk_e_X12_isHeldByOther lk_n_RX12 lk_c_X12_isHeldByOther
theorem lk_mRX12_327 : Cond.methodLink RX12 327 yX12_does ∈ gTB := gTm (i := 1893) (by decide +kernel) rfl
theorem lk_i_X12_does : Cond.instanceMethod yX12_does ∈ gTB := gTm (i := 1895) (by decide +kernel) rfl
theorem lk_e_X12_does : Cond.selects RX12 yX12_does yX12_does ∈ gTB := gTp (i := 83) (q := (yX12_does, 65)) (by decide +kernel)
theorem lk_c_X12_does : Cond.code yX12_does cX12_does 4 none ∈ gTB := gTm (i := 1896) (by decide +kernel) rfl
theorem lk_vRX12_327 : ∀ w ∈ wsV RX12 327 RX12 yX12_does (gW yX12_does cX12_does 4 none), w ∈ gTB := gV_in lk_mRX12_327 lk_i_X12_does lk_e_X12_does lk_n_RX12 lk_c_X12_does
theorem lk_mRX12_284 : Cond.methodLink RX12 284 yX12_refills ∈ gTB := gTm (i := 1796) (by decide +kernel) rfl
theorem lk_i_X12_refills : Cond.instanceMethod yX12_refills ∈ gTB := gTm (i := 1798) (by decide +kernel) rfl
theorem lk_e_X12_refills : Cond.selects RX12 yX12_refills yX12_refills ∈ gTB := gTp (i := 69) (q := (yX12_refills, 65)) (by decide +kernel)
theorem lk_c_X12_refills : Cond.code yX12_refills cX12_refills 9 (some .boolean) ∈ gTB := gTm (i := 1799) (by decide +kernel) rfl
theorem lk_vRX12_284 : ∀ w ∈ wsV RX12 284 RX12 yX12_refills (gW yX12_refills cX12_refills 9 (some .boolean)), w ∈ gTB := gV_in lk_mRX12_284 lk_i_X12_refills lk_e_X12_refills lk_n_RX12 lk_c_X12_refills
theorem lk_mRX12_268 : Cond.methodLink RX12 268 yX12_isBarredAt ∈ gTB := gTm (i := 1776) (by decide +kernel) rfl
theorem lk_i_X12_isBarredAt : Cond.instanceMethod yX12_isBarredAt ∈ gTB := gTm (i := 1778) (by decide +kernel) rfl
theorem lk_e_X12_isBarredAt : Cond.selects RX12 yX12_isBarredAt yX12_isBarredAt ∈ gTB := gTp (i := 65) (q := (yX12_isBarredAt, 65)) (by decide +kernel)
theorem lk_c_X12_isBarredAt : Cond.code yX12_isBarredAt cX12_isBarredAt 5 (some .boolean) ∈ gTB := gTm (i := 1779) (by decide +kernel) rfl
theorem lk_vRX12_268 : ∀ w ∈ wsV RX12 268 RX12 yX12_isBarredAt (gW yX12_isBarredAt cX12_isBarredAt 5 (some .boolean)), w ∈ gTB := gV_in lk_mRX12_268 lk_i_X12_isBarredAt lk_e_X12_isBarredAt lk_n_RX12 lk_c_X12_isBarredAt
theorem lk_mRX12_299 : Cond.methodLink RX12 299 yX12_allocates ∈ gTB := gTm (i := 1823) (by decide +kernel) rfl
theorem lk_i_X12_allocates : Cond.instanceMethod yX12_allocates ∈ gTB := gTm (i := 1825) (by decide +kernel) rfl
theorem lk_e_X12_allocates : Cond.selects RX12 yX12_allocates yX12_allocates ∈ gTB := gTp (i := 72) (q := (yX12_allocates, 65)) (by decide +kernel)
theorem lk_c_X12_allocates : Cond.code yX12_allocates cX12_allocates 6 (some .int) ∈ gTB := gTm (i := 1826) (by decide +kernel) rfl
theorem lk_vRX12_299 : ∀ w ∈ wsV RX12 299 RX12 yX12_allocates (gW yX12_allocates cX12_allocates 6 (some .int)), w ∈ gTB := gV_in lk_mRX12_299 lk_i_X12_allocates lk_e_X12_allocates lk_n_RX12 lk_c_X12_allocates
theorem lk_mRX12_271 : Cond.methodLink RX12 271 yX12_slotFor ∈ gTB := gTm (i := 1772) (by decide +kernel) rfl
theorem lk_i_X12_slotFor : Cond.instanceMethod yX12_slotFor ∈ gTB := gTm (i := 1774) (by decide +kernel) rfl
theorem lk_e_X12_slotFor : Cond.selects RX12 yX12_slotFor yX12_slotFor ∈ gTB := gTp (i := 64) (q := (yX12_slotFor, 65)) (by decide +kernel)
theorem lk_c_X12_slotFor : Cond.code yX12_slotFor cX12_slotFor 11 (some .int) ∈ gTB := gTm (i := 1775) (by decide +kernel) rfl
theorem lk_vRX12_271 : ∀ w ∈ wsV RX12 271 RX12 yX12_slotFor (gW yX12_slotFor cX12_slotFor 11 (some .int)), w ∈ gTB := gV_in lk_mRX12_271 lk_i_X12_slotFor lk_e_X12_slotFor lk_n_RX12 lk_c_X12_slotFor
theorem lk_mRX12_324 : Cond.methodLink RX12 324 yX12_goesTo ∈ gTB := gTm (i := 1889) (by decide +kernel) rfl
theorem lk_i_X12_goesTo : Cond.instanceMethod yX12_goesTo ∈ gTB := gTm (i := 1891) (by decide +kernel) rfl
theorem lk_e_X12_goesTo : Cond.selects RX12 yX12_goesTo yX12_goesTo ∈ gTB := gTp (i := 82) (q := (yX12_goesTo, 65)) (by decide +kernel)
theorem lk_c_X12_goesTo : Cond.code yX12_goesTo cX12_goesTo 6 none ∈ gTB := gTm (i := 1892) (by decide +kernel) rfl
theorem lk_vRX12_324 : ∀ w ∈ wsV RX12 324 RX12 yX12_goesTo (gW yX12_goesTo cX12_goesTo 6 none), w ∈ gTB := gV_in lk_mRX12_324 lk_i_X12_goesTo lk_e_X12_goesTo lk_n_RX12 lk_c_X12_goesTo
theorem lk_mRX12_356 : Cond.methodLink RX12 356 yX12_isInRing ∈ gTB := gTm (i := 1921) (by decide +kernel) rfl
theorem lk_i_X12_isInRing : Cond.instanceMethod yX12_isInRing ∈ gTB := gTm (i := 1923) (by decide +kernel) rfl
theorem lk_e_X12_isInRing : Cond.selects RX12 yX12_isInRing yX12_isInRing ∈ gTB := gTp (i := 90) (q := (yX12_isInRing, 65)) (by decide +kernel)
theorem lk_c_X12_isInRing : Cond.code yX12_isInRing cX12_isInRing 4 (some .boolean) ∈ gTB := gTm (i := 1924) (by decide +kernel) rfl
theorem lk_vRX12_356 : ∀ w ∈ wsV RX12 356 RX12 yX12_isInRing (gW yX12_isInRing cX12_isInRing 4 (some .boolean)), w ∈ gTB := gV_in lk_mRX12_356 lk_i_X12_isInRing lk_e_X12_isInRing lk_n_RX12 lk_c_X12_isInRing
theorem lk_mRX12_353 : Cond.methodLink RX12 353 yX12_turns ∈ gTB := gTm (i := 1885) (by decide +kernel) rfl
theorem lk_i_X12_turns : Cond.instanceMethod yX12_turns ∈ gTB := gTm (i := 1887) (by decide +kernel) rfl
theorem lk_e_X12_turns : Cond.selects RX12 yX12_turns yX12_turns ∈ gTB := gTp (i := 81) (q := (yX12_turns, 65)) (by decide +kernel)
theorem lk_c_X12_turns : Cond.code yX12_turns cX12_turns 4 none ∈ gTB := gTm (i := 1888) (by decide +kernel) rfl
theorem lk_vRX12_353 : ∀ w ∈ wsV RX12 353 RX12 yX12_turns (gW yX12_turns cX12_turns 4 none), w ∈ gTB := gV_in lk_mRX12_353 lk_i_X12_turns lk_e_X12_turns lk_n_RX12 lk_c_X12_turns
theorem lk_mRX12_362 : Cond.methodLink RX12 362 yX12_ticks ∈ gTB := gTm (i := 1881) (by decide +kernel) rfl
theorem lk_i_X12_ticks : Cond.instanceMethod yX12_ticks ∈ gTB := gTm (i := 1883) (by decide +kernel) rfl
theorem lk_e_X12_ticks : Cond.selects RX12 yX12_ticks yX12_ticks ∈ gTB := gTp (i := 80) (q := (yX12_ticks, 65)) (by decide +kernel)
theorem lk_c_X12_ticks : Cond.code yX12_ticks cX12_ticks 3 none ∈ gTB := gTm (i := 1884) (by decide +kernel) rfl
theorem lk_vRX12_362 : ∀ w ∈ wsV RX12 362 RX12 yX12_ticks (gW yX12_ticks cX12_ticks 3 none), w ∈ gTB := gV_in lk_mRX12_362 lk_i_X12_ticks lk_e_X12_ticks lk_n_RX12 lk_c_X12_ticks
theorem gin0 : ∀ w ∈ u_ws RX0 TX0 8, w ∈ gTB := gin [112, 114, 116, 118, 120, 122, 124, 126] (by decide +kernel) (by decide +kernel)
theorem lk_fRX0_76 : Cond.fieldLink RX0 76 RX0 (TX0 7).2.1 (TX0 7).2.2.1 ∈ gTB := gTm (i := 111) (by decide +kernel) rfl
theorem lk_fRX0_35 : Cond.fieldLink RX0 35 RX0 (TX0 6).2.1 (TX0 6).2.2.1 ∈ gTB := gTm (i := 110) (by decide +kernel) rfl
theorem lk_mRX10_3 : Cond.methodLink RX10 3 objectInit ∈ gTB := gTm (i := 424) (by decide +kernel) rfl
theorem gin10 : ∀ w ∈ u_ws RX10 TX10 7, w ∈ gTB := gin [440, 442, 444, 446, 448, 450, 452] (by decide +kernel) (by decide +kernel)
theorem lk_fRX10_9 : Cond.fieldLink RX10 9 RX10 (TX10 5).2.1 (TX10 5).2.2.1 ∈ gTB := gTm (i := 435) (by decide +kernel) rfl
theorem lk_fRX10_15 : Cond.fieldLink RX10 15 RX10 (TX10 0).2.1 (TX10 0).2.2.1 ∈ gTB := gTm (i := 425) (by decide +kernel) rfl
theorem lk_fRX10_18 : Cond.fieldLink RX10 18 RX10 (TX10 1).2.1 (TX10 1).2.2.1 ∈ gTB := gTm (i := 427) (by decide +kernel) rfl
theorem lk_fRX10_21 : Cond.fieldLink RX10 21 RX10 (TX10 2).2.1 (TX10 2).2.2.1 ∈ gTB := gTm (i := 429) (by decide +kernel) rfl
theorem lk_fRX10_25 : Cond.fieldLink RX10 25 RX10 (TX10 3).2.1 (TX10 3).2.2.1 ∈ gTB := gTm (i := 431) (by decide +kernel) rfl
theorem gin2 : ∀ w ∈ u_ws RX2 TX2 6, w ∈ gTB := gin [336, 338, 340, 342, 344, 346] (by decide +kernel) (by decide +kernel)
theorem lk_fRX10_28 : Cond.fieldLink RX10 28 RX2 (TX2 4).2.1 (TX2 4).2.2.1 ∈ gTB := gTm (i := 333) (by decide +kernel) rfl
theorem lk_fRX10_33 : Cond.fieldLink RX10 33 RX10 (TX10 4).2.1 (TX10 4).2.2.1 ∈ gTB := gTm (i := 433) (by decide +kernel) rfl
theorem lk_fRX10_34 : Cond.fieldLink RX10 34 RX10 (TX10 6).2.1 (TX10 6).2.2.1 ∈ gTB := gTm (i := 438) (by decide +kernel) rfl
theorem lk_fRX10_38 : Cond.fieldLink RX10 38 RX2 (TX2 2).2.1 (TX2 2).2.2.1 ∈ gTB := gTm (i := 328) (by decide +kernel) rfl
theorem gin11 : ∀ w ∈ u_ws RX11 TX11 19, w ∈ gTB := gin [224, 226, 228, 230, 232, 234, 236, 238, 240, 242, 244, 246, 248, 250, 252, 254, 256, 258, 260] (by decide +kernel) (by decide +kernel)
theorem lk_fRX11_209 : Cond.fieldLink RX11 209 RX11 (TX11 18).2.1 (TX11 18).2.2.1 ∈ gTB := gTm (i := 223) (by decide +kernel) rfl
theorem gin5 : ∀ w ∈ u_ws RX5 TX5 4, w ∈ gTB := gin [671, 673, 675, 677] (by decide +kernel) (by decide +kernel)
theorem lk_fRX11_368 : Cond.fieldLink RX11 368 RX5 (TX5 1).2.1 (TX5 1).2.2.1 ∈ gTB := gTm (i := 667) (by decide +kernel) rfl
theorem lk_fRX11_365 : Cond.fieldLink RX11 365 RX5 (TX5 3).2.1 (TX5 3).2.2.1 ∈ gTB := gTm (i := 670) (by decide +kernel) rfl
theorem lk_fRX11_157 : Cond.fieldLink RX11 157 RX5 (TX5 2).2.1 (TX5 2).2.2.1 ∈ gTB := gTm (i := 669) (by decide +kernel) rfl
theorem lk_fRX11_298 : Cond.fieldLink RX11 298 RX11 (TX11 16).2.1 (TX11 16).2.2.1 ∈ gTB := gTm (i := 221) (by decide +kernel) rfl
theorem gin7 : ∀ w ∈ u_ws RX7 TX7 7, w ∈ gTB := gin [1107, 1109, 1111, 1113, 1115, 1117, 1119] (by decide +kernel) (by decide +kernel)
theorem lk_fRX11_463 : Cond.fieldLink RX11 463 RX7 (TX7 3).2.1 (TX7 3).2.2.1 ∈ gTB := gTm (i := 1102) (by decide +kernel) rfl
theorem lk_fRX11_23 : Cond.fieldLink RX11 23 RX11 (TX11 2).2.1 (TX11 2).2.2.1 ∈ gTB := gTm (i := 207) (by decide +kernel) rfl
theorem gin8 : ∀ w ∈ u_ws RX8 TX8 4, w ∈ gTB := gin [196, 198, 200, 202] (by decide +kernel) (by decide +kernel)
theorem lk_fRX11_308 : Cond.fieldLink RX11 308 RX8 (TX8 1).2.1 (TX8 1).2.2.1 ∈ gTB := gTm (i := 191) (by decide +kernel) rfl
theorem lk_fRX11_323 : Cond.fieldLink RX11 323 RX11 (TX11 17).2.1 (TX11 17).2.2.1 ∈ gTB := gTm (i := 222) (by decide +kernel) rfl
theorem gin1 : ∀ w ∈ u_ws RX1 TX1 2, w ∈ gTB := gin [93, 95] (by decide +kernel) (by decide +kernel)
theorem lk_fRX1_7 : Cond.fieldLink RX1 7 RX1 (TX1 0).2.1 (TX1 0).2.2.1 ∈ gTB := gTm (i := 91) (by decide +kernel) rfl
theorem lk_fRX1_19 : Cond.fieldLink RX1 19 RX1 (TX1 1).2.1 (TX1 1).2.2.1 ∈ gTB := gTm (i := 92) (by decide +kernel) rfl
theorem lk_mRX1_1 : Cond.methodLink RX1 1 objectInit ∈ gTB := gTm (i := 87) (by decide +kernel) rfl
theorem lk_mRX1_13 : Cond.methodLink RX1 13 Lib.Math.max.name ∈ gTB := gTm (i := 88) (by decide +kernel) rfl
theorem lk_mRX2_3 : Cond.methodLink RX2 3 objectInit ∈ gTB := gTm (i := 322) (by decide +kernel) rfl
theorem lk_fRX2_9 : Cond.fieldLink RX2 9 RX2 (TX2 0).2.1 (TX2 0).2.2.1 ∈ gTB := gTm (i := 323) (by decide +kernel) rfl
theorem lk_fRX2_15 : Cond.fieldLink RX2 15 RX2 (TX2 1).2.1 (TX2 1).2.2.1 ∈ gTB := gTm (i := 325) (by decide +kernel) rfl
theorem lk_fRX2_19 : Cond.fieldLink RX2 19 RX2 (TX2 2).2.1 (TX2 2).2.2.1 ∈ gTB := gTm (i := 327) (by decide +kernel) rfl
theorem lk_fRX2_23 : Cond.fieldLink RX2 23 RX2 (TX2 3).2.1 (TX2 3).2.2.1 ∈ gTB := gTm (i := 330) (by decide +kernel) rfl
theorem lk_fRX2_27 : Cond.fieldLink RX2 27 RX2 (TX2 4).2.1 (TX2 4).2.2.1 ∈ gTB := gTm (i := 332) (by decide +kernel) rfl
theorem lk_fRX2_30 : Cond.fieldLink RX2 30 RX7 (TX7 0).2.1 (TX7 0).2.2.1 ∈ gTB := gTm (i := 1095) (by decide +kernel) rfl
theorem lk_mRX3_1 : Cond.methodLink RX3 1 objectInit ∈ gTB := gTm (i := 157) (by decide +kernel) rfl
theorem gin3 : ∀ w ∈ u_ws RX3 TX3 6, w ∈ gTB := gin [169, 171, 173, 175, 177, 179] (by decide +kernel) (by decide +kernel)
theorem lk_fRX3_7 : Cond.fieldLink RX3 7 RX3 (TX3 2).2.1 (TX3 2).2.2.1 ∈ gTB := gTm (i := 162) (by decide +kernel) rfl
theorem lk_fRX3_13 : Cond.fieldLink RX3 13 RX3 (TX3 3).2.1 (TX3 3).2.2.1 ∈ gTB := gTm (i := 164) (by decide +kernel) rfl
theorem lk_fRX3_16 : Cond.fieldLink RX3 16 RX3 (TX3 5).2.1 (TX3 5).2.2.1 ∈ gTB := gTm (i := 167) (by decide +kernel) rfl
theorem lk_fRX3_19 : Cond.fieldLink RX3 19 RX3 (TX3 0).2.1 (TX3 0).2.2.1 ∈ gTB := gTm (i := 158) (by decide +kernel) rfl
theorem lk_mRX4_1 : Cond.methodLink RX4 1 objectInit ∈ gTB := gTm (i := 1137) (by decide +kernel) rfl
theorem gin4 : ∀ w ∈ u_ws RX4 TX4 4, w ∈ gTB := gin [1145, 1147, 1149, 1151] (by decide +kernel) (by decide +kernel)
theorem lk_fRX4_7 : Cond.fieldLink RX4 7 RX4 (TX4 0).2.1 (TX4 0).2.2.1 ∈ gTB := gTm (i := 1138) (by decide +kernel) rfl
theorem lk_fRX4_13 : Cond.fieldLink RX4 13 RX4 (TX4 1).2.1 (TX4 1).2.2.1 ∈ gTB := gTm (i := 1140) (by decide +kernel) rfl
theorem lk_fRX4_17 : Cond.fieldLink RX4 17 RX4 (TX4 2).2.1 (TX4 2).2.2.1 ∈ gTB := gTm (i := 1141) (by decide +kernel) rfl
theorem lk_fRX4_20 : Cond.fieldLink RX4 20 RX4 (TX4 3).2.1 (TX4 3).2.2.1 ∈ gTB := gTm (i := 1143) (by decide +kernel) rfl
theorem lk_mRX5_1 : Cond.methodLink RX5 1 objectInit ∈ gTB := gTm (i := 661) (by decide +kernel) rfl
theorem lk_fRX5_7 : Cond.fieldLink RX5 7 RX5 (TX5 0).2.1 (TX5 0).2.2.1 ∈ gTB := gTm (i := 662) (by decide +kernel) rfl
theorem lk_fRX5_13 : Cond.fieldLink RX5 13 RX5 (TX5 1).2.1 (TX5 1).2.2.1 ∈ gTB := gTm (i := 665) (by decide +kernel) rfl
theorem lk_fRX5_17 : Cond.fieldLink RX5 17 RX5 (TX5 2).2.1 (TX5 2).2.2.1 ∈ gTB := gTm (i := 668) (by decide +kernel) rfl
theorem lk_mRX6_1 : Cond.methodLink RX6 1 objectInit ∈ gTB := gTm (i := 989) (by decide +kernel) rfl
theorem gin6 : ∀ w ∈ u_ws RX6 TX6 3, w ∈ gTB := gin [995, 997, 999] (by decide +kernel) (by decide +kernel)
theorem lk_fRX6_7 : Cond.fieldLink RX6 7 RX6 (TX6 0).2.1 (TX6 0).2.2.1 ∈ gTB := gTm (i := 990) (by decide +kernel) rfl
theorem lk_fRX6_13 : Cond.fieldLink RX6 13 RX6 (TX6 1).2.1 (TX6 1).2.2.1 ∈ gTB := gTm (i := 992) (by decide +kernel) rfl
theorem lk_fRX8_18 : Cond.fieldLink RX8 18 RX8 (TX8 1).2.1 (TX8 1).2.2.1 ∈ gTB := gTm (i := 190) (by decide +kernel) rfl
theorem lk_fRX8_49 : Cond.fieldLink RX8 49 RX8 (TX8 2).2.1 (TX8 2).2.2.1 ∈ gTB := gTm (i := 192) (by decide +kernel) rfl
theorem lk_mRX9_3 : Cond.methodLink RX9 3 objectInit ∈ gTB := gTm (i := 135) (by decide +kernel) rfl
theorem gin9 : ∀ w ∈ u_ws RX9 TX9 5, w ∈ gTB := gin [142, 144, 146, 148, 150] (by decide +kernel) (by decide +kernel)
theorem lk_fRX9_9 : Cond.fieldLink RX9 9 RX9 (TX9 1).2.1 (TX9 1).2.2.1 ∈ gTB := gTm (i := 137) (by decide +kernel) rfl
theorem lk_fRX0_14 : Cond.fieldLink RX0 14 RX0 (TX0 0).2.1 (TX0 0).2.2.1 ∈ gTB := gTm (i := 99) (by decide +kernel) rfl
theorem lk_mRX0_45 : Cond.methodLink RX0 45 yX1_at ∈ gTB := gTm (i := 302) (by decide +kernel) rfl
theorem lk_i_X1_at : Cond.instanceMethod yX1_at ∈ gTB := gTm (i := 276) (by decide +kernel) rfl
theorem lk_e_X1_at : Cond.selects RX1 yX1_at yX1_at ∈ gTB := gTm (i := 277) (by decide +kernel) rfl
theorem lk_n_RX1 : Cond.initialized RX1 ∈ gTB := gTm (i := 6) (by decide +kernel) rfl
theorem lk_c_X1_at : Cond.code yX1_at cX1_at 5 (some .int) ∈ gTB := gTm (i := 278) (by decide +kernel) rfl
theorem lk_vRX0_45 : ∀ w ∈ wsV RX0 45 RX1 yX1_at (gW yX1_at cX1_at 5 (some .int)), w ∈ gTB := gV_in lk_mRX0_45 lk_i_X1_at lk_e_X1_at lk_n_RX1 lk_c_X1_at
theorem lk_fRX0_26 : Cond.fieldLink RX0 26 RX0 (TX0 3).2.1 (TX0 3).2.2.1 ∈ gTB := gTm (i := 105) (by decide +kernel) rfl
theorem lk_fRX0_20 : Cond.fieldLink RX0 20 RX0 (TX0 1).2.1 (TX0 1).2.2.1 ∈ gTB := gTm (i := 101) (by decide +kernel) rfl
theorem lk_fRX0_29 : Cond.fieldLink RX0 29 RX0 (TX0 4).2.1 (TX0 4).2.2.1 ∈ gTB := gTm (i := 107) (by decide +kernel) rfl
theorem lk_mRX0_3 : Cond.methodLink RX0 3 objectInit ∈ gTB := gTm (i := 81) (by decide +kernel) rfl
theorem lk_kRX0_9 : Cond.classLink RX0 9 RX1 ∈ gTB := gTm (i := 82) (by decide +kernel) rfl
theorem lk_tX1 : Cond.instantiable RX1 2 ∈ gTB := gTm (i := 83) (by decide +kernel) rfl
theorem dfl_X1 : ∀ j, j < 2 → defaultValue (tyX1 j) = vp_V ((kF 2).map fD) j := by decide +kernel
theorem lk_c_X1_init : Cond.code yX1_init cX1_init 3 none ∈ gTB := gTm (i := 86) (by decide +kernel) rfl
theorem lk_mRX0_11 : Cond.methodLink RX0 11 yX1_init ∈ gTB := gTm (i := 84) (by decide +kernel) rfl
theorem lk_i_X1_init : Cond.instanceMethod yX1_init ∈ gTB := gTm (i := 85) (by decide +kernel) rfl
theorem lk_fRX0_23 : Cond.fieldLink RX0 23 RX0 (TX0 2).2.1 (TX0 2).2.2.1 ∈ gTB := gTm (i := 103) (by decide +kernel) rfl
theorem lk_fRX0_32 : Cond.fieldLink RX0 32 RX0 (TX0 5).2.1 (TX0 5).2.2.1 ∈ gTB := gTm (i := 109) (by decide +kernel) rfl
theorem lk_mRX0_69 : Cond.methodLink RX0 69 yX1_put ∈ gTB := gTm (i := 1023) (by decide +kernel) rfl
theorem lk_i_X1_put : Cond.instanceMethod yX1_put ∈ gTB := gTm (i := 1024) (by decide +kernel) rfl
theorem lk_e_X1_put : Cond.selects RX1 yX1_put yX1_put ∈ gTB := gTm (i := 1025) (by decide +kernel) rfl
theorem lk_c_X1_put : Cond.code yX1_put cX1_put 5 none ∈ gTB := gTm (i := 1026) (by decide +kernel) rfl
theorem lk_vRX0_69 : ∀ w ∈ wsV RX0 69 RX1 yX1_put (gW yX1_put cX1_put 5 none), w ∈ gTB := gV_in lk_mRX0_69 lk_i_X1_put lk_e_X1_put lk_n_RX1 lk_c_X1_put
theorem lk_mRX0_79 : Cond.methodLink RX0 79 yJ7_copyOf_59c91 ∈ gTB := gTm (i := 1031) (by decide +kernel) rfl
theorem lk_s_J7_copyOf_59c91 : Cond.static yJ7_copyOf_59c91 ∈ gTB := gTm (i := 1032) (by decide +kernel) rfl
theorem lk_c_J7_copyOf_59c91 : Cond.code yJ7_copyOf_59c91 cJ7_copyOf_59c91 3 (some (.array .int)) ∈ gTB := gTm (i := 1033) (by decide +kernel) rfl
theorem lk_sRX0_79 : ∀ w ∈ va_wsS RX0 79 yJ7_copyOf_59c91 (gW yJ7_copyOf_59c91 cJ7_copyOf_59c91 3 (some (.array .int))), w ∈ gTB := gS2_in lk_mRX0_79 lk_s_J7_copyOf_59c91 lk_n_RJ7 lk_c_J7_copyOf_59c91
theorem lk_mRX11_120 : Cond.methodLink RX11 120 yX11_isGroup ∈ gTB := gTm (i := 633) (by decide +kernel) rfl
theorem lk_s_X11_isGroup : Cond.static yX11_isGroup ∈ gTB := gTm (i := 634) (by decide +kernel) rfl
theorem lk_n_RX11 : Cond.initialized RX11 ∈ gTB := gTm (i := 1) (by decide +kernel) rfl
theorem lk_c_X11_isGroup : Cond.code yX11_isGroup cX11_isGroup 1 (some .boolean) ∈ gTB := gTm (i := 635) (by decide +kernel) rfl
theorem lk_sRX11_120 : ∀ w ∈ wsS RX11 120 yX11_isGroup (gW yX11_isGroup cX11_isGroup 1 (some .boolean)), w ∈ gTB := gS_in lk_mRX11_120 lk_s_X11_isGroup lk_n_RX11 lk_c_X11_isGroup
theorem lk_xRX11_83 : Cond.classLink RX11 83 (exN 1) ∈ gTB := gTm (i := 511) (by decide +kernel) rfl
theorem lk_xi_1 : Cond.initialized (exN 1) ∈ gTB := gTm (i := 15) (by decide +kernel) rfl
theorem lk_xaRX11_85 : ∀ w ∈ vx_at0 RX11 85 (exN 1) ["java/lang/RuntimeException", "java/lang/Exception"], w ∈ gTB ∨ w ∈ gNB := by decide +kernel
theorem lk_xgRX11_83_85 : ∀ w ∈ Cond.classLink RX11 83 (exN 1) :: Cond.initialized (exN 1) :: vx_at0 RX11 85 (exN 1) ["java/lang/RuntimeException", "java/lang/Exception"], vx_ot w = true := by decide +kernel
theorem lk_fRX11_139 : Cond.fieldLink RX11 139 RX11 (TX11 15).2.1 (TX11 15).2.2.1 ∈ gTB := gTm (i := 220) (by decide +kernel) rfl
theorem lk_mRX11_142 : Cond.methodLink RX11 142 yX11_isBarred ∈ gTB := gTm (i := 647) (by decide +kernel) rfl
theorem lk_s_X11_isBarred : Cond.static yX11_isBarred ∈ gTB := gTm (i := 648) (by decide +kernel) rfl
theorem lk_c_X11_isBarred : Cond.code yX11_isBarred cX11_isBarred 3 (some .boolean) ∈ gTB := gTm (i := 649) (by decide +kernel) rfl
theorem lk_sRX11_142 : ∀ w ∈ wsS RX11 142 yX11_isBarred (gW yX11_isBarred cX11_isBarred 3 (some .boolean)), w ∈ gTB := gS_in lk_mRX11_142 lk_s_X11_isBarred lk_n_RX11 lk_c_X11_isBarred
theorem lk_fRX11_71 : Cond.fieldLink RX11 71 RX11 (TX11 13).2.1 (TX11 13).2.2.1 ∈ gTB := gTm (i := 218) (by decide +kernel) rfl
theorem lk_mRX11_176 : Cond.methodLink RX11 176 yX1_at ∈ gTB := gTm (i := 275) (by decide +kernel) rfl
theorem lk_vRX11_176 : ∀ w ∈ wsV RX11 176 RX1 yX1_at (gW yX1_at cX1_at 5 (some .int)), w ∈ gTB := gV_in lk_mRX11_176 lk_i_X1_at lk_e_X1_at lk_n_RX1 lk_c_X1_at
theorem lk_fRX11_127 : Cond.fieldLink RX11 127 RX3 (TX3 2).2.1 (TX3 2).2.2.1 ∈ gTB := gTm (i := 163) (by decide +kernel) rfl
theorem lk_fRX11_130 : Cond.fieldLink RX11 130 RX3 (TX3 3).2.1 (TX3 3).2.2.1 ∈ gTB := gTm (i := 165) (by decide +kernel) rfl
theorem lk_fRX11_17 : Cond.fieldLink RX11 17 RX11 (TX11 1).2.1 (TX11 1).2.2.1 ∈ gTB := gTm (i := 206) (by decide +kernel) rfl
theorem lk_fRX11_378 : Cond.fieldLink RX11 378 RX3 (TX3 0).2.1 (TX3 0).2.2.1 ∈ gTB := gTm (i := 160) (by decide +kernel) rfl
theorem lk_fRX11_133 : Cond.fieldLink RX11 133 RX3 (TX3 4).2.1 (TX3 4).2.2.1 ∈ gTB := gTm (i := 166) (by decide +kernel) rfl
theorem lk_mRX11_79 : Cond.methodLink RX11 79 yX11_isSlot ∈ gTB := gTm (i := 310) (by decide +kernel) rfl
theorem lk_s_X11_isSlot : Cond.static yX11_isSlot ∈ gTB := gTm (i := 311) (by decide +kernel) rfl
theorem lk_c_X11_isSlot : Cond.code yX11_isSlot cX11_isSlot 1 (some .boolean) ∈ gTB := gTm (i := 312) (by decide +kernel) rfl
theorem lk_sRX11_79 : ∀ w ∈ wsS RX11 79 yX11_isSlot (gW yX11_isSlot cX11_isSlot 1 (some .boolean)), w ∈ gTB := gS_in lk_mRX11_79 lk_s_X11_isSlot lk_n_RX11 lk_c_X11_isSlot
theorem lk_fRX11_11 : Cond.fieldLink RX11 11 RX11 (TX11 0).2.1 (TX11 0).2.2.1 ∈ gTB := gTm (i := 205) (by decide +kernel) rfl
theorem lk_fRX11_107 : Cond.fieldLink RX11 107 RX9 (TX9 1).2.1 (TX9 1).2.2.1 ∈ gTB := gTm (i := 138) (by decide +kernel) rfl
theorem lk_fRX11_52 : Cond.fieldLink RX11 52 RX11 (TX11 9).2.1 (TX11 9).2.2.1 ∈ gTB := gTm (i := 214) (by decide +kernel) rfl
theorem lk_fRX11_375 : Cond.fieldLink RX11 375 RX0 (TX0 1).2.1 (TX0 1).2.2.1 ∈ gTB := gTm (i := 102) (by decide +kernel) rfl
theorem lk_fRX11_379 : Cond.fieldLink RX11 379 RX0 (TX0 4).2.1 (TX0 4).2.2.1 ∈ gTB := gTm (i := 108) (by decide +kernel) rfl
theorem lk_fRX11_428 : Cond.fieldLink RX11 428 RX2 (TX2 0).2.1 (TX2 0).2.2.1 ∈ gTB := gTm (i := 324) (by decide +kernel) rfl
theorem lk_fRX11_418 : Cond.fieldLink RX11 418 RX2 (TX2 5).2.1 (TX2 5).2.2.1 ∈ gTB := gTm (i := 335) (by decide +kernel) rfl
theorem lk_mRX11_264 : Cond.methodLink RX11 264 yX2_turn ∈ gTB := gTm (i := 1168) (by decide +kernel) rfl
theorem lk_i_X2_turn : Cond.instanceMethod yX2_turn ∈ gTB := gTm (i := 1169) (by decide +kernel) rfl
theorem lk_e_X2_turn : Cond.selects RX2 yX2_turn yX2_turn ∈ gTB := gTm (i := 1170) (by decide +kernel) rfl
theorem lk_n_RX2 : Cond.initialized RX2 ∈ gTB := gTm (i := 32) (by decide +kernel) rfl
theorem lk_c_X2_turn : Cond.code yX2_turn cX2_turn 1 (some .int) ∈ gTB := gTm (i := 1171) (by decide +kernel) rfl
theorem lk_vRX11_264 : ∀ w ∈ wsV RX11 264 RX2 yX2_turn (gW yX2_turn cX2_turn 1 (some .int)), w ∈ gTB := gV_in lk_mRX11_264 lk_i_X2_turn lk_e_X2_turn lk_n_RX2 lk_c_X2_turn
theorem lk_fRX11_481 : Cond.fieldLink RX11 481 RX8 (TX8 3).2.1 (TX8 3).2.2.1 ∈ gTB := gTm (i := 195) (by decide +kernel) rfl
theorem lk_mRX11_496 : Cond.methodLink RX11 496 yX11_robotIn ∈ gTB := gTm (i := 1287) (by decide +kernel) rfl
theorem lk_i_X11_robotIn : Cond.instanceMethod yX11_robotIn ∈ gTB := gTm (i := 1289) (by decide +kernel) rfl
theorem lk_e_X11_robotIn : Cond.selects RX11 yX11_robotIn yX11_robotIn ∈ gTB := gTp (i := 40) (q := (yX11_robotIn, 19)) (by decide +kernel)
theorem lk_c_X11_robotIn : Cond.code yX11_robotIn cX11_robotIn 6 (some (.object RX8)) ∈ gTB := gTm (i := 1290) (by decide +kernel) rfl
theorem lk_vRX11_496 : ∀ w ∈ wsV RX11 496 RX11 yX11_robotIn (gW yX11_robotIn cX11_robotIn 6 (some (.object RX8))), w ∈ gTB := gV_in lk_mRX11_496 lk_i_X11_robotIn lk_e_X11_robotIn lk_n_RX11 lk_c_X11_robotIn
theorem lk_fRX11_30 : Cond.fieldLink RX11 30 RX11 (TX11 3).2.1 (TX11 3).2.2.1 ∈ gTB := gTm (i := 208) (by decide +kernel) rfl
theorem lk_mRX11_145 : Cond.methodLink RX11 145 yJx4a65c_size_8abf5 ∈ gTB := gTm (i := 267) (by decide +kernel) rfl
theorem lk_i_Jx4a65c_size_8abf5 : Cond.instanceMethod yJx4a65c_size_8abf5 ∈ gTB := gTm (i := 268) (by decide +kernel) rfl
theorem lk_e_Jx4a65c_size_8abf5 : Cond.selects RJx4a65c yJx4a65c_size_8abf5 yJx4a65c_size_8abf5 ∈ gTB := gTm (i := 269) (by decide +kernel) rfl
theorem lk_c_Jx4a65c_size_8abf5 : Cond.code yJx4a65c_size_8abf5 cJx4a65c_size_8abf5 1 (some .int) ∈ gTB := gTm (i := 270) (by decide +kernel) rfl
theorem lk_vRX11_145 : ∀ w ∈ wsV RX11 145 RJx4a65c yJx4a65c_size_8abf5 (gW yJx4a65c_size_8abf5 cJx4a65c_size_8abf5 1 (some .int)), w ∈ gTB := gV_in lk_mRX11_145 lk_i_Jx4a65c_size_8abf5 lk_e_Jx4a65c_size_8abf5 lk_n_RJx4a65c lk_c_Jx4a65c_size_8abf5
theorem lk_fRX11_37 : Cond.fieldLink RX11 37 RX11 (TX11 5).2.1 (TX11 5).2.2.1 ∈ gTB := gTm (i := 210) (by decide +kernel) rfl
theorem lk_fRX11_40 : Cond.fieldLink RX11 40 RX11 (TX11 6).2.1 (TX11 6).2.2.1 ∈ gTB := gTm (i := 211) (by decide +kernel) rfl
theorem lk_fRX11_46 : Cond.fieldLink RX11 46 RX11 (TX11 8).2.1 (TX11 8).2.2.1 ∈ gTB := gTm (i := 213) (by decide +kernel) rfl
theorem lk_fRX11_352 : Cond.fieldLink RX11 352 RX11 (TX11 14).2.1 (TX11 14).2.2.1 ∈ gTB := gTm (i := 219) (by decide +kernel) rfl
theorem lk_mRX11_531 : Cond.methodLink RX11 531 yX1_put ∈ gTB := gTm (i := 1372) (by decide +kernel) rfl
theorem lk_vRX11_531 : ∀ w ∈ wsV RX11 531 RX1 yX1_put (gW yX1_put cX1_put 5 none), w ∈ gTB := gV_in lk_mRX11_531 lk_i_X1_put lk_e_X1_put lk_n_RX1 lk_c_X1_put
theorem lk_fRX11_246 : Cond.fieldLink RX11 246 RX7 (TX7 5).2.1 (TX7 5).2.2.1 ∈ gTB := gTm (i := 1105) (by decide +kernel) rfl
theorem lk_fRX11_534 : Cond.fieldLink RX11 534 RX7 (TX7 0).2.1 (TX7 0).2.2.1 ∈ gTB := gTm (i := 1096) (by decide +kernel) rfl
theorem lk_fRX11_68 : Cond.fieldLink RX11 68 RX11 (TX11 12).2.1 (TX11 12).2.2.1 ∈ gTB := gTm (i := 217) (by decide +kernel) rfl
theorem lk_mRX11_202 : Cond.methodLink RX11 202 yX1_add ∈ gTB := gTm (i := 411) (by decide +kernel) rfl
theorem lk_i_X1_add : Cond.instanceMethod yX1_add ∈ gTB := gTm (i := 412) (by decide +kernel) rfl
theorem lk_e_X1_add : Cond.selects RX1 yX1_add yX1_add ∈ gTB := gTm (i := 413) (by decide +kernel) rfl
theorem lk_c_X1_add : Cond.code yX1_add cX1_add 5 none ∈ gTB := gTm (i := 414) (by decide +kernel) rfl
theorem lk_vRX11_202 : ∀ w ∈ wsV RX11 202 RX1 yX1_add (gW yX1_add cX1_add 5 none), w ∈ gTB := gV_in lk_mRX11_202 lk_i_X1_add lk_e_X1_add lk_n_RX1 lk_c_X1_add
theorem lk_fRX11_271 : Cond.fieldLink RX11 271 RX2 (TX2 4).2.1 (TX2 4).2.2.1 ∈ gTB := gTm (i := 334) (by decide +kernel) rfl
theorem lk_fRX11_402 : Cond.fieldLink RX11 402 RX0 (TX0 3).2.1 (TX0 3).2.2.1 ∈ gTB := gTm (i := 106) (by decide +kernel) rfl
theorem lk_fRX11_407 : Cond.fieldLink RX11 407 RX2 (TX2 2).2.1 (TX2 2).2.2.1 ∈ gTB := gTm (i := 329) (by decide +kernel) rfl
theorem lk_fRX11_410 : Cond.fieldLink RX11 410 RX2 (TX2 3).2.1 (TX2 3).2.2.1 ∈ gTB := gTm (i := 331) (by decide +kernel) rfl
theorem lk_fRX11_167 : Cond.fieldLink RX11 167 RX5 (TX5 0).2.1 (TX5 0).2.2.1 ∈ gTB := gTm (i := 664) (by decide +kernel) rfl
theorem lk_fRX11_414 : Cond.fieldLink RX11 414 RX2 (TX2 1).2.1 (TX2 1).2.2.1 ∈ gTB := gTm (i := 326) (by decide +kernel) rfl
theorem lk_fRX11_319 : Cond.fieldLink RX11 319 RX10 (TX10 1).2.1 (TX10 1).2.2.1 ∈ gTB := gTm (i := 428) (by decide +kernel) rfl
theorem lk_fRX11_422 : Cond.fieldLink RX11 422 RX10 (TX10 3).2.1 (TX10 3).2.2.1 ∈ gTB := gTm (i := 432) (by decide +kernel) rfl
theorem lk_fRX11_405 : Cond.fieldLink RX11 405 RX4 (TX4 2).2.1 (TX4 2).2.2.1 ∈ gTB := gTm (i := 1142) (by decide +kernel) rfl
theorem lk_fRX11_173 : Cond.fieldLink RX11 173 RX0 (TX0 0).2.1 (TX0 0).2.2.1 ∈ gTB := gTm (i := 100) (by decide +kernel) rfl
theorem lk_mRX11_273 : Cond.methodLink RX11 273 yX11_isRobot ∈ gTB := gTm (i := 1183) (by decide +kernel) rfl
theorem lk_s_X11_isRobot : Cond.static yX11_isRobot ∈ gTB := gTm (i := 1184) (by decide +kernel) rfl
theorem lk_c_X11_isRobot : Cond.code yX11_isRobot cX11_isRobot 1 (some .boolean) ∈ gTB := gTm (i := 1185) (by decide +kernel) rfl
theorem lk_sRX11_273 : ∀ w ∈ wsS RX11 273 yX11_isRobot (gW yX11_isRobot cX11_isRobot 1 (some .boolean)), w ∈ gTB := gS_in lk_mRX11_273 lk_s_X11_isRobot lk_n_RX11 lk_c_X11_isRobot
theorem lk_fRX11_311 : Cond.fieldLink RX11 311 RX8 (TX8 2).2.1 (TX8 2).2.2.1 ∈ gTB := gTm (i := 193) (by decide +kernel) rfl
theorem lk_fRX0_39 : Cond.fieldLink RX0 39 RX5 (TX5 0).2.1 (TX5 0).2.2.1 ∈ gTB := gTm (i := 663) (by decide +kernel) rfl
theorem lk_mRX0_54 : Cond.methodLink RX0 54 yX1_add ∈ gTB := gTm (i := 1018) (by decide +kernel) rfl
theorem lk_vRX0_54 : ∀ w ∈ wsV RX0 54 RX1 yX1_add (gW yX1_add cX1_add 5 none), w ∈ gTB := gV_in lk_mRX0_54 lk_i_X1_add lk_e_X1_add lk_n_RX1 lk_c_X1_add
theorem lk_fRX0_62 : Cond.fieldLink RX0 62 RX5 (TX5 1).2.1 (TX5 1).2.2.1 ∈ gTB := gTm (i := 666) (by decide +kernel) rfl
theorem lk_fRX0_66 : Cond.fieldLink RX0 66 RX3 (TX3 0).2.1 (TX3 0).2.2.1 ∈ gTB := gTm (i := 159) (by decide +kernel) rfl
theorem lk_mRX0_72 : Cond.methodLink RX0 72 yX0_note ∈ gTB := gTm (i := 1027) (by decide +kernel) rfl
theorem lk_i_X0_note : Cond.instanceMethod yX0_note ∈ gTB := gTm (i := 1029) (by decide +kernel) rfl
theorem lk_e_X0_note : Cond.selects RX0 yX0_note yX0_note ∈ gTB := gTp (i := 22) (q := (yX0_note, 8)) (by decide +kernel)
theorem lk_n_RX0 : Cond.initialized RX0 ∈ gTB := gTm (i := 5) (by decide +kernel) rfl
theorem lk_c_X0_note : Cond.code yX0_note cX0_note 6 none ∈ gTB := gTm (i := 1030) (by decide +kernel) rfl
theorem lk_vRX0_72 : ∀ w ∈ wsV RX0 72 RX0 yX0_note (gW yX0_note cX0_note 6 none), w ∈ gTB := gV_in lk_mRX0_72 lk_i_X0_note lk_e_X0_note lk_n_RX0 lk_c_X0_note
theorem lk_mRX11_329 : Cond.methodLink RX11 329 Lib.Math.min.name ∈ gTB := gTm (i := 303) (by decide +kernel) rfl
theorem lk_mRX11_432 : Cond.methodLink RX11 432 yX11_release ∈ gTB := gTm (i := 1274) (by decide +kernel) rfl
theorem lk_i_X11_release : Cond.instanceMethod yX11_release ∈ gTB := gTm (i := 1276) (by decide +kernel) rfl
theorem lk_e_X11_release : Cond.selects RX11 yX11_release yX11_release ∈ gTB := gTp (i := 37) (q := (yX11_release, 19)) (by decide +kernel)
theorem lk_c_X11_release : Cond.code yX11_release cX11_release 3 none ∈ gTB := gTm (i := 1277) (by decide +kernel) rfl
theorem lk_vRX11_432 : ∀ w ∈ wsV RX11 432 RX11 yX11_release (gW yX11_release cX11_release 3 none), w ∈ gTB := gV_in lk_mRX11_432 lk_i_X11_release lk_e_X11_release lk_n_RX11 lk_c_X11_release
theorem lk_fRX11_322 : Cond.fieldLink RX11 322 RX10 (TX10 4).2.1 (TX10 4).2.2.1 ∈ gTB := gTm (i := 434) (by decide +kernel) rfl
theorem lk_fRX11_292 : Cond.fieldLink RX11 292 RX10 (TX10 5).2.1 (TX10 5).2.2.1 ∈ gTB := gTm (i := 437) (by decide +kernel) rfl
theorem lk_mRX11_528 : Cond.methodLink RX11 528 yX11_fitsIntoBox ∈ gTB := gTm (i := 1377) (by decide +kernel) rfl
theorem lk_i_X11_fitsIntoBox : Cond.instanceMethod yX11_fitsIntoBox ∈ gTB := gTm (i := 1379) (by decide +kernel) rfl
theorem lk_e_X11_fitsIntoBox : Cond.selects RX11 yX11_fitsIntoBox yX11_fitsIntoBox ∈ gTB := gTp (i := 48) (q := (yX11_fitsIntoBox, 19)) (by decide +kernel)
theorem lk_c_X11_fitsIntoBox : Cond.code yX11_fitsIntoBox cX11_fitsIntoBox 9 (some .boolean) ∈ gTB := gTm (i := 1380) (by decide +kernel) rfl
theorem lk_vRX11_528 : ∀ w ∈ wsV RX11 528 RX11 yX11_fitsIntoBox (gW yX11_fitsIntoBox cX11_fitsIntoBox 9 (some .boolean)), w ∈ gTB := gV_in lk_mRX11_528 lk_i_X11_fitsIntoBox lk_e_X11_fitsIntoBox lk_n_RX11 lk_c_X11_fitsIntoBox
theorem lk_mRX11_524 : Cond.methodLink RX11 524 yX11_putIntoBox ∈ gTB := gTm (i := 1373) (by decide +kernel) rfl
theorem lk_i_X11_putIntoBox : Cond.instanceMethod yX11_putIntoBox ∈ gTB := gTm (i := 1375) (by decide +kernel) rfl
theorem lk_e_X11_putIntoBox : Cond.selects RX11 yX11_putIntoBox yX11_putIntoBox ∈ gTB := gTp (i := 47) (q := (yX11_putIntoBox, 19)) (by decide +kernel)
theorem lk_c_X11_putIntoBox : Cond.code yX11_putIntoBox cX11_putIntoBox 3 none ∈ gTB := gTm (i := 1376) (by decide +kernel) rfl
theorem lk_vRX11_524 : ∀ w ∈ wsV RX11 524 RX11 yX11_putIntoBox (gW yX11_putIntoBox cX11_putIntoBox 3 none), w ∈ gTB := gV_in lk_mRX11_524 lk_i_X11_putIntoBox lk_e_X11_putIntoBox lk_n_RX11 lk_c_X11_putIntoBox
theorem lk_mRX11_521 : Cond.methodLink RX11 521 yX11_openBox ∈ gTB := gTm (i := 1368) (by decide +kernel) rfl
theorem lk_i_X11_openBox : Cond.instanceMethod yX11_openBox ∈ gTB := gTm (i := 1370) (by decide +kernel) rfl
theorem lk_e_X11_openBox : Cond.selects RX11 yX11_openBox yX11_openBox ∈ gTB := gTp (i := 46) (q := (yX11_openBox, 19)) (by decide +kernel)
theorem lk_c_X11_openBox : Cond.code yX11_openBox cX11_openBox 2 none ∈ gTB := gTm (i := 1371) (by decide +kernel) rfl
theorem lk_vRX11_521 : ∀ w ∈ wsV RX11 521 RX11 yX11_openBox (gW yX11_openBox cX11_openBox 2 none), w ∈ gTB := gV_in lk_mRX11_521 lk_i_X11_openBox lk_e_X11_openBox lk_n_RX11 lk_c_X11_openBox
theorem lk_mRX11_170 : Cond.methodLink RX11 170 yX11_isLot ∈ gTB := gTm (i := 948) (by decide +kernel) rfl
theorem lk_i_X11_isLot : Cond.instanceMethod yX11_isLot ∈ gTB := gTm (i := 950) (by decide +kernel) rfl
theorem lk_e_X11_isLot : Cond.selects RX11 yX11_isLot yX11_isLot ∈ gTB := gTp (i := 19) (q := (yX11_isLot, 19)) (by decide +kernel)
theorem lk_c_X11_isLot : Cond.code yX11_isLot cX11_isLot 2 (some .boolean) ∈ gTB := gTm (i := 951) (by decide +kernel) rfl
theorem lk_vRX11_170 : ∀ w ∈ wsV RX11 170 RX11 yX11_isLot (gW yX11_isLot cX11_isLot 2 (some .boolean)), w ∈ gTB := gV_in lk_mRX11_170 lk_i_X11_isLot lk_e_X11_isLot lk_n_RX11 lk_c_X11_isLot
theorem lk_mRX11_86 : Cond.methodLink RX11 86 yX11_isWithin ∈ gTB := gTm (i := 575) (by decide +kernel) rfl
theorem lk_s_X11_isWithin : Cond.static yX11_isWithin ∈ gTB := gTm (i := 576) (by decide +kernel) rfl
theorem lk_c_X11_isWithin : Cond.code yX11_isWithin cX11_isWithin 3 (some .boolean) ∈ gTB := gTm (i := 577) (by decide +kernel) rfl
theorem lk_sRX11_86 : ∀ w ∈ wsS RX11 86 yX11_isWithin (gW yX11_isWithin cX11_isWithin 3 (some .boolean)), w ∈ gTB := gS_in lk_mRX11_86 lk_s_X11_isWithin lk_n_RX11 lk_c_X11_isWithin
theorem lk_fRX11_326 : Cond.fieldLink RX11 326 RX0 (TX0 2).2.1 (TX0 2).2.2.1 ∈ gTB := gTm (i := 104) (by decide +kernel) rfl
theorem lk_xRX11_90 : Cond.classLink RX11 90 (exN 2) ∈ gTB := gTm (i := 578) (by decide +kernel) rfl
theorem lk_xi_2 : Cond.initialized (exN 2) ∈ gTB := gTm (i := 16) (by decide +kernel) rfl
theorem lk_xaRX11_92 : ∀ w ∈ vx_at0 RX11 92 (exN 2) ["java/lang/RuntimeException", "java/lang/Exception"], w ∈ gTB ∨ w ∈ gNB := by decide +kernel
theorem lk_xgRX11_90_92 : ∀ w ∈ Cond.classLink RX11 90 (exN 2) :: Cond.initialized (exN 2) :: vx_at0 RX11 92 (exN 2) ["java/lang/RuntimeException", "java/lang/Exception"], vx_ot w = true := by decide +kernel
theorem lk_mRX11_183 : Cond.methodLink RX11 183 yX0_freePieces ∈ gTB := gTm (i := 298) (by decide +kernel) rfl
theorem lk_i_X0_freePieces : Cond.instanceMethod yX0_freePieces ∈ gTB := gTm (i := 299) (by decide +kernel) rfl
theorem lk_e_X0_freePieces : Cond.selects RX0 yX0_freePieces yX0_freePieces ∈ gTB := gTm (i := 300) (by decide +kernel) rfl
theorem lk_c_X0_freePieces : Cond.code yX0_freePieces cX0_freePieces 3 (some .int) ∈ gTB := gTm (i := 301) (by decide +kernel) rfl
theorem lk_vRX11_183 : ∀ w ∈ wsV RX11 183 RX0 yX0_freePieces (gW yX0_freePieces cX0_freePieces 3 (some .int)), w ∈ gTB := gV_in lk_mRX11_183 lk_i_X0_freePieces lk_e_X0_freePieces lk_n_RX0 lk_c_X0_freePieces
theorem lk_mRX11_371 : Cond.methodLink RX11 371 yX0_hasOrAwaits ∈ gTB := gTm (i := 597) (by decide +kernel) rfl
theorem lk_i_X0_hasOrAwaits : Cond.instanceMethod yX0_hasOrAwaits ∈ gTB := gTm (i := 598) (by decide +kernel) rfl
theorem lk_e_X0_hasOrAwaits : Cond.selects RX0 yX0_hasOrAwaits yX0_hasOrAwaits ∈ gTB := gTm (i := 599) (by decide +kernel) rfl
theorem lk_c_X0_hasOrAwaits : Cond.code yX0_hasOrAwaits cX0_hasOrAwaits 3 (some .boolean) ∈ gTB := gTm (i := 600) (by decide +kernel) rfl
theorem lk_vRX11_371 : ∀ w ∈ wsV RX11 371 RX0 yX0_hasOrAwaits (gW yX0_hasOrAwaits cX0_hasOrAwaits 3 (some .boolean)), w ∈ gTB := gV_in lk_mRX11_371 lk_i_X0_hasOrAwaits lk_e_X0_hasOrAwaits lk_n_RX0 lk_c_X0_hasOrAwaits
theorem lk_mRX11_195 : Cond.methodLink RX11 195 yX11_isNotice ∈ gTB := gTm (i := 1009) (by decide +kernel) rfl
theorem lk_i_X11_isNotice : Cond.instanceMethod yX11_isNotice ∈ gTB := gTm (i := 1011) (by decide +kernel) rfl
theorem lk_e_X11_isNotice : Cond.selects RX11 yX11_isNotice yX11_isNotice ∈ gTB := gTp (i := 20) (q := (yX11_isNotice, 19)) (by decide +kernel)
theorem lk_c_X11_isNotice : Cond.code yX11_isNotice cX11_isNotice 2 (some .boolean) ∈ gTB := gTm (i := 1012) (by decide +kernel) rfl
theorem lk_vRX11_195 : ∀ w ∈ wsV RX11 195 RX11 yX11_isNotice (gW yX11_isNotice cX11_isNotice 2 (some .boolean)), w ∈ gTB := gV_in lk_mRX11_195 lk_i_X11_isNotice lk_e_X11_isNotice lk_n_RX11 lk_c_X11_isNotice
theorem lk_fRX11_61 : Cond.fieldLink RX11 61 RX11 (TX11 10).2.1 (TX11 10).2.2.1 ∈ gTB := gTm (i := 215) (by decide +kernel) rfl
theorem lk_mRX11_186 : Cond.methodLink RX11 186 yX11_freeRoom ∈ gTB := gTm (i := 306) (by decide +kernel) rfl
theorem lk_i_X11_freeRoom : Cond.instanceMethod yX11_freeRoom ∈ gTB := gTm (i := 308) (by decide +kernel) rfl
theorem lk_e_X11_freeRoom : Cond.selects RX11 yX11_freeRoom yX11_freeRoom ∈ gTB := gTp (i := 2) (q := (yX11_freeRoom, 19)) (by decide +kernel)
theorem lk_c_X11_freeRoom : Cond.code yX11_freeRoom cX11_freeRoom 7 (some .int) ∈ gTB := gTm (i := 309) (by decide +kernel) rfl
theorem lk_vRX11_186 : ∀ w ∈ wsV RX11 186 RX11 yX11_freeRoom (gW yX11_freeRoom cX11_freeRoom 7 (some .int)), w ∈ gTB := gV_in lk_mRX11_186 lk_i_X11_freeRoom lk_e_X11_freeRoom lk_n_RX11 lk_c_X11_freeRoom
theorem lk_mRX11_240 : Cond.methodLink RX11 240 yX11_isOrder ∈ gTB := gTm (i := 1129) (by decide +kernel) rfl
theorem lk_i_X11_isOrder : Cond.instanceMethod yX11_isOrder ∈ gTB := gTm (i := 1131) (by decide +kernel) rfl
theorem lk_e_X11_isOrder : Cond.selects RX11 yX11_isOrder yX11_isOrder ∈ gTB := gTp (i := 28) (q := (yX11_isOrder, 19)) (by decide +kernel)
theorem lk_c_X11_isOrder : Cond.code yX11_isOrder cX11_isOrder 2 (some .boolean) ∈ gTB := gTm (i := 1132) (by decide +kernel) rfl
theorem lk_vRX11_240 : ∀ w ∈ wsV RX11 240 RX11 yX11_isOrder (gW yX11_isOrder cX11_isOrder 2 (some .boolean)), w ∈ gTB := gV_in lk_mRX11_240 lk_i_X11_isOrder lk_e_X11_isOrder lk_n_RX11 lk_c_X11_isOrder
theorem lk_fRX11_65 : Cond.fieldLink RX11 65 RX11 (TX11 11).2.1 (TX11 11).2.2.1 ∈ gTB := gTm (i := 216) (by decide +kernel) rfl
theorem lk_fRX11_93 : Cond.fieldLink RX11 93 RX9 (TX9 2).2.1 (TX9 2).2.2.1 ∈ gTB := gTm (i := 139) (by decide +kernel) rfl
theorem lk_mRX11_180 : Cond.methodLink RX11 180 yX0_madeAnew ∈ gTB := gTm (i := 959) (by decide +kernel) rfl
theorem lk_i_X0_madeAnew : Cond.instanceMethod yX0_madeAnew ∈ gTB := gTm (i := 960) (by decide +kernel) rfl
theorem lk_e_X0_madeAnew : Cond.selects RX0 yX0_madeAnew yX0_madeAnew ∈ gTB := gTm (i := 961) (by decide +kernel) rfl
theorem lk_c_X0_madeAnew : Cond.code yX0_madeAnew cX0_madeAnew 5 (some .int) ∈ gTB := gTm (i := 962) (by decide +kernel) rfl
theorem lk_vRX11_180 : ∀ w ∈ wsV RX11 180 RX0 yX0_madeAnew (gW yX0_madeAnew cX0_madeAnew 5 (some .int)), w ∈ gTB := gV_in lk_mRX11_180 lk_i_X0_madeAnew lk_e_X0_madeAnew lk_n_RX0 lk_c_X0_madeAnew
theorem lk_mRX11_510 : Cond.methodLink RX11 510 yX11_isInRing ∈ gTB := gTm (i := 1295) (by decide +kernel) rfl
theorem lk_i_X11_isInRing : Cond.instanceMethod yX11_isInRing ∈ gTB := gTm (i := 1297) (by decide +kernel) rfl
theorem lk_e_X11_isInRing : Cond.selects RX11 yX11_isInRing yX11_isInRing ∈ gTB := gTp (i := 42) (q := (yX11_isInRing, 19)) (by decide +kernel)
theorem lk_c_X11_isInRing : Cond.code yX11_isInRing cX11_isInRing 4 (some .boolean) ∈ gTB := gTm (i := 1298) (by decide +kernel) rfl
theorem lk_vRX11_510 : ∀ w ∈ wsV RX11 510 RX11 yX11_isInRing (gW yX11_isInRing cX11_isInRing 4 (some .boolean)), w ∈ gTB := gV_in lk_mRX11_510 lk_i_X11_isInRing lk_e_X11_isInRing lk_n_RX11 lk_c_X11_isInRing
theorem lk_mRX11_484 : Cond.methodLink RX11 484 yX8_goToFront ∈ gTB := gTm (i := 1250) (by decide +kernel) rfl
theorem lk_i_X8_goToFront : Cond.instanceMethod yX8_goToFront ∈ gTB := gTm (i := 1251) (by decide +kernel) rfl
theorem lk_e_X8_goToFront : Cond.selects RX8 yX8_goToFront yX8_goToFront ∈ gTB := gTm (i := 1252) (by decide +kernel) rfl
theorem lk_n_RX8 : Cond.initialized RX8 ∈ gTB := gTm (i := 10) (by decide +kernel) rfl
theorem lk_c_X8_goToFront : Cond.code yX8_goToFront cX8_goToFront 1 none ∈ gTB := gTm (i := 1253) (by decide +kernel) rfl
theorem lk_vRX11_484 : ∀ w ∈ wsV RX11 484 RX8 yX8_goToFront (gW yX8_goToFront cX8_goToFront 1 none), w ∈ gTB := gV_in lk_mRX11_484 lk_i_X8_goToFront lk_e_X8_goToFront lk_n_RX8 lk_c_X8_goToFront
theorem lk_mRX0_58 : Cond.methodLink RX0 58 yX0_write ∈ gTB := gTm (i := 1019) (by decide +kernel) rfl
theorem lk_i_X0_write : Cond.instanceMethod yX0_write ∈ gTB := gTm (i := 1021) (by decide +kernel) rfl
theorem lk_e_X0_write : Cond.selects RX0 yX0_write yX0_write ∈ gTB := gTp (i := 21) (q := (yX0_write, 8)) (by decide +kernel)
theorem lk_c_X0_write : Cond.code yX0_write cX0_write 5 none ∈ gTB := gTm (i := 1022) (by decide +kernel) rfl
theorem lk_vRX0_58 : ∀ w ∈ wsV RX0 58 RX0 yX0_write (gW yX0_write cX0_write 5 none), w ∈ gTB := gV_in lk_mRX0_58 lk_i_X0_write lk_e_X0_write lk_n_RX0 lk_c_X0_write
theorem lk_mRX0_49 : Cond.methodLink RX0 49 Lib.Math.min.name ∈ gTB := gTm (i := 1017) (by decide +kernel) rfl
theorem lk_fRX11_103 : Cond.fieldLink RX11 103 RX9 (TX9 0).2.1 (TX9 0).2.2.1 ∈ gTB := gTm (i := 136) (by decide +kernel) rfl
theorem lk_fRX11_113 : Cond.fieldLink RX11 113 RX3 (TX3 1).2.1 (TX3 1).2.2.1 ∈ gTB := gTm (i := 161) (by decide +kernel) rfl
theorem lk_mRX11_391 : Cond.methodLink RX11 391 yX11_isBarredIn ∈ gTB := gTm (i := 1072) (by decide +kernel) rfl
theorem lk_i_X11_isBarredIn : Cond.instanceMethod yX11_isBarredIn ∈ gTB := gTm (i := 1074) (by decide +kernel) rfl
theorem lk_e_X11_isBarredIn : Cond.selects RX11 yX11_isBarredIn yX11_isBarredIn ∈ gTB := gTp (i := 26) (q := (yX11_isBarredIn, 19)) (by decide +kernel)
theorem lk_c_X11_isBarredIn : Cond.code yX11_isBarredIn cX11_isBarredIn 7 (some .boolean) ∈ gTB := gTm (i := 1075) (by decide +kernel) rfl
theorem lk_vRX11_391 : ∀ w ∈ wsV RX11 391 RX11 yX11_isBarredIn (gW yX11_isBarredIn cX11_isBarredIn 7 (some .boolean)), w ∈ gTB := gV_in lk_mRX11_391 lk_i_X11_isBarredIn lk_e_X11_isBarredIn lk_n_RX11 lk_c_X11_isBarredIn
theorem lk_fRX11_43 : Cond.fieldLink RX11 43 RX11 (TX11 7).2.1 (TX11 7).2.2.1 ∈ gTB := gTm (i := 212) (by decide +kernel) rfl
theorem lk_mRX11_153 : Cond.methodLink RX11 153 yJx4a65c_get_915e3 ∈ gTB := gTm (i := 279) (by decide +kernel) rfl
theorem lk_i_Jx4a65c_get_915e3 : Cond.instanceMethod yJx4a65c_get_915e3 ∈ gTB := gTm (i := 280) (by decide +kernel) rfl
theorem lk_e_Jx4a65c_get_915e3 : Cond.selects RJx4a65c yJx4a65c_get_915e3 yJx4a65c_get_915e3 ∈ gTB := gTm (i := 281) (by decide +kernel) rfl
theorem lk_c_Jx4a65c_get_915e3 : Cond.code yJx4a65c_get_915e3 cJx4a65c_get_915e3 2 (some (.object "java/lang/Object")) ∈ gTB := gTm (i := 282) (by decide +kernel) rfl
theorem lk_vRX11_153 : ∀ w ∈ wsV RX11 153 RJx4a65c yJx4a65c_get_915e3 (gW yJx4a65c_get_915e3 cJx4a65c_get_915e3 2 (some (.object "java/lang/Object"))), w ∈ gTB := gV_in lk_mRX11_153 lk_i_Jx4a65c_get_915e3 lk_e_Jx4a65c_get_915e3 lk_n_RJx4a65c lk_c_Jx4a65c_get_915e3
theorem lk_kRX11_262 : Cond.classLink RX11 262 RX2 ∈ gTB := gTm (i := 317) (by decide +kernel) rfl
theorem lk_mRX11_425 : Cond.methodLink RX11 425 yJx4a65c_remove_915e3 ∈ gTB := gTm (i := 1282) (by decide +kernel) rfl
theorem lk_i_Jx4a65c_remove_915e3 : Cond.instanceMethod yJx4a65c_remove_915e3 ∈ gTB := gTm (i := 1243) (by decide +kernel) rfl
theorem lk_e_Jx4a65c_remove_915e3 : Cond.selects RJx4a65c yJx4a65c_remove_915e3 yJx4a65c_remove_915e3 ∈ gTB := gTm (i := 1244) (by decide +kernel) rfl
theorem lk_c_Jx4a65c_remove_915e3 : Cond.code yJx4a65c_remove_915e3 cJx4a65c_remove_915e3 4 (some (.object "java/lang/Object")) ∈ gTB := gTm (i := 1245) (by decide +kernel) rfl
theorem lk_vRX11_425 : ∀ w ∈ wsV RX11 425 RJx4a65c yJx4a65c_remove_915e3 (gW yJx4a65c_remove_915e3 cJx4a65c_remove_915e3 4 (some (.object "java/lang/Object"))), w ∈ gTB := gV_in lk_mRX11_425 lk_i_Jx4a65c_remove_915e3 lk_e_Jx4a65c_remove_915e3 lk_n_RJx4a65c lk_c_Jx4a65c_remove_915e3
theorem lk_mRX11_110 : Cond.methodLink RX11 110 yX11_isItem ∈ gTB := gTm (i := 623) (by decide +kernel) rfl
theorem lk_s_X11_isItem : Cond.static yX11_isItem ∈ gTB := gTm (i := 624) (by decide +kernel) rfl
theorem lk_c_X11_isItem : Cond.code yX11_isItem cX11_isItem 1 (some .boolean) ∈ gTB := gTm (i := 625) (by decide +kernel) rfl
theorem lk_sRX11_110 : ∀ w ∈ wsS RX11 110 yX11_isItem (gW yX11_isItem cX11_isItem 1 (some .boolean)), w ∈ gTB := gS_in lk_mRX11_110 lk_s_X11_isItem lk_n_RX11 lk_c_X11_isItem
theorem lk_mRX11_97 : Cond.methodLink RX11 97 yX11_isUsed ∈ gTB := gTm (i := 593) (by decide +kernel) rfl
theorem lk_i_X11_isUsed : Cond.instanceMethod yX11_isUsed ∈ gTB := gTm (i := 595) (by decide +kernel) rfl
theorem lk_e_X11_isUsed : Cond.selects RX11 yX11_isUsed yX11_isUsed ∈ gTB := gTp (i := 15) (q := (yX11_isUsed, 19)) (by decide +kernel)
theorem lk_c_X11_isUsed : Cond.code yX11_isUsed cX11_isUsed 3 (some .boolean) ∈ gTB := gTm (i := 596) (by decide +kernel) rfl
theorem lk_vRX11_97 : ∀ w ∈ wsV RX11 97 RX11 yX11_isUsed (gW yX11_isUsed cX11_isUsed 3 (some .boolean)), w ∈ gTB := gV_in lk_mRX11_97 lk_i_X11_isUsed lk_e_X11_isUsed lk_n_RX11 lk_c_X11_isUsed
theorem lk_xRX11_100 : Cond.classLink RX11 100 (exN 3) ∈ gTB := gTm (i := 601) (by decide +kernel) rfl
theorem lk_xi_3 : Cond.initialized (exN 3) ∈ gTB := gTm (i := 17) (by decide +kernel) rfl
theorem lk_xaRX11_102 : ∀ w ∈ vx_at0 RX11 102 (exN 3) ["java/lang/RuntimeException", "java/lang/Exception"], w ∈ gTB ∨ w ∈ gNB := by decide +kernel
theorem lk_xgRX11_100_102 : ∀ w ∈ Cond.classLink RX11 100 (exN 3) :: Cond.initialized (exN 3) :: vx_at0 RX11 102 (exN 3) ["java/lang/RuntimeException", "java/lang/Exception"], vx_ot w = true := by decide +kernel
theorem lk_fRX11_114 : Cond.fieldLink RX11 114 RX9 (TX9 3).2.1 (TX9 3).2.2.1 ∈ gTB := gTm (i := 140) (by decide +kernel) rfl
theorem lk_fRX11_117 : Cond.fieldLink RX11 117 RX9 (TX9 4).2.1 (TX9 4).2.2.1 ∈ gTB := gTm (i := 141) (by decide +kernel) rfl
theorem lk_kRX11_148 : Cond.classLink RX11 148 RX5 ∈ gTB := gTm (i := 293) (by decide +kernel) rfl
theorem lk_mRX11_267 : Cond.methodLink RX11 267 yX2_isOf ∈ gTB := gTm (i := 1172) (by decide +kernel) rfl
theorem lk_i_X2_isOf : Cond.instanceMethod yX2_isOf ∈ gTB := gTm (i := 1173) (by decide +kernel) rfl
theorem lk_e_X2_isOf : Cond.selects RX2 yX2_isOf yX2_isOf ∈ gTB := gTm (i := 1174) (by decide +kernel) rfl
theorem lk_c_X2_isOf : Cond.code yX2_isOf cX2_isOf 3 (some .boolean) ∈ gTB := gTm (i := 1175) (by decide +kernel) rfl
theorem lk_vRX11_267 : ∀ w ∈ wsV RX11 267 RX2 yX2_isOf (gW yX2_isOf cX2_isOf 3 (some .boolean)), w ∈ gTB := gV_in lk_mRX11_267 lk_i_X2_isOf lk_e_X2_isOf lk_n_RX2 lk_c_X2_isOf
theorem lk_mRX11_473 : Cond.methodLink RX11 473 yX11_isForWave ∈ gTB := gTm (i := 1190) (by decide +kernel) rfl
theorem lk_s_X11_isForWave : Cond.static yX11_isForWave ∈ gTB := gTm (i := 1191) (by decide +kernel) rfl
theorem lk_c_X11_isForWave : Cond.code yX11_isForWave cX11_isForWave 2 (some .boolean) ∈ gTB := gTm (i := 1192) (by decide +kernel) rfl
theorem lk_sRX11_473 : ∀ w ∈ wsS RX11 473 yX11_isForWave (gW yX11_isForWave cX11_isForWave 2 (some .boolean)), w ∈ gTB := gS_in lk_mRX11_473 lk_s_X11_isForWave lk_n_RX11 lk_c_X11_isForWave
theorem lk_kRX11_235 : Cond.classLink RX11 235 RX7 ∈ gTB := gTm (i := 459) (by decide +kernel) rfl
theorem lk_fRX11_243 : Cond.fieldLink RX11 243 RX7 (TX7 4).2.1 (TX7 4).2.2.1 ∈ gTB := gTm (i := 1104) (by decide +kernel) rfl
theorem lk_kRX11_249 : Cond.classLink RX11 249 RX4 ∈ gTB := gTm (i := 468) (by decide +kernel) rfl
theorem lk_mRX11_259 : Cond.methodLink RX11 259 yX4_lacking ∈ gTB := gTm (i := 469) (by decide +kernel) rfl
theorem lk_i_X4_lacking : Cond.instanceMethod yX4_lacking ∈ gTB := gTm (i := 470) (by decide +kernel) rfl
theorem lk_e_X4_lacking : Cond.selects RX4 yX4_lacking yX4_lacking ∈ gTB := gTm (i := 471) (by decide +kernel) rfl
theorem lk_n_RX4 : Cond.initialized RX4 ∈ gTB := gTm (i := 35) (by decide +kernel) rfl
theorem lk_c_X4_lacking : Cond.code yX4_lacking cX4_lacking 1 (some .int) ∈ gTB := gTm (i := 472) (by decide +kernel) rfl
theorem lk_vRX11_259 : ∀ w ∈ wsV RX11 259 RX4 yX4_lacking (gW yX4_lacking cX4_lacking 1 (some .int)), w ∈ gTB := gV_in lk_mRX11_259 lk_i_X4_lacking lk_e_X4_lacking lk_n_RX4 lk_c_X4_lacking
theorem lk_mRX11_477 : Cond.methodLink RX11 477 yX11_turnInWave ∈ gTB := gTm (i := 1197) (by decide +kernel) rfl
theorem lk_s_X11_turnInWave : Cond.static yX11_turnInWave ∈ gTB := gTm (i := 1198) (by decide +kernel) rfl
theorem lk_c_X11_turnInWave : Cond.code yX11_turnInWave cX11_turnInWave 5 (some .int) ∈ gTB := gTm (i := 1199) (by decide +kernel) rfl
theorem lk_sRX11_477 : ∀ w ∈ wsS RX11 477 yX11_turnInWave (gW yX11_turnInWave cX11_turnInWave 5 (some .int)), w ∈ gTB := gS_in lk_mRX11_477 lk_s_X11_turnInWave lk_n_RX11 lk_c_X11_turnInWave
theorem lk_mRX11_514 : Cond.methodLink RX11 514 yX11_piecesToPack ∈ gTB := gTm (i := 1360) (by decide +kernel) rfl
theorem lk_i_X11_piecesToPack : Cond.instanceMethod yX11_piecesToPack ∈ gTB := gTm (i := 1362) (by decide +kernel) rfl
theorem lk_e_X11_piecesToPack : Cond.selects RX11 yX11_piecesToPack yX11_piecesToPack ∈ gTB := gTp (i := 44) (q := (yX11_piecesToPack, 19)) (by decide +kernel)
theorem lk_c_X11_piecesToPack : Cond.code yX11_piecesToPack cX11_piecesToPack 3 (some .int) ∈ gTB := gTm (i := 1363) (by decide +kernel) rfl
theorem lk_vRX11_514 : ∀ w ∈ wsV RX11 514 RX11 yX11_piecesToPack (gW yX11_piecesToPack cX11_piecesToPack 3 (some .int)), w ∈ gTB := gV_in lk_mRX11_514 lk_i_X11_piecesToPack lk_e_X11_piecesToPack lk_n_RX11 lk_c_X11_piecesToPack
theorem lk_mRX11_517 : Cond.methodLink RX11 517 yX11_fillBoxes ∈ gTB := gTm (i := 1364) (by decide +kernel) rfl
theorem lk_i_X11_fillBoxes : Cond.instanceMethod yX11_fillBoxes ∈ gTB := gTm (i := 1366) (by decide +kernel) rfl
theorem lk_e_X11_fillBoxes : Cond.selects RX11 yX11_fillBoxes yX11_fillBoxes ∈ gTB := gTp (i := 45) (q := (yX11_fillBoxes, 19)) (by decide +kernel)
theorem lk_c_X11_fillBoxes : Cond.code yX11_fillBoxes cX11_fillBoxes 6 none ∈ gTB := gTm (i := 1367) (by decide +kernel) rfl
theorem lk_vRX11_517 : ∀ w ∈ wsV RX11 517 RX11 yX11_fillBoxes (gW yX11_fillBoxes cX11_fillBoxes 6 none), w ∈ gTB := gV_in lk_mRX11_517 lk_i_X11_fillBoxes lk_e_X11_fillBoxes lk_n_RX11 lk_c_X11_fillBoxes
theorem lk_fRX11_359 : Cond.fieldLink RX11 359 RX7 (TX7 6).2.1 (TX7 6).2.2.1 ∈ gTB := gTm (i := 1106) (by decide +kernel) rfl
theorem lk_mRX11_459 : Cond.methodLink RX11 459 yX11_isGoodFor ∈ gTB := gTm (i := 477) (by decide +kernel) rfl
theorem lk_i_X11_isGoodFor : Cond.instanceMethod yX11_isGoodFor ∈ gTB := gTm (i := 479) (by decide +kernel) rfl
theorem lk_e_X11_isGoodFor : Cond.selects RX11 yX11_isGoodFor yX11_isGoodFor ∈ gTB := gTp (i := 11) (q := (yX11_isGoodFor, 19)) (by decide +kernel)
theorem lk_c_X11_isGoodFor : Cond.code yX11_isGoodFor cX11_isGoodFor 4 (some .boolean) ∈ gTB := gTm (i := 480) (by decide +kernel) rfl
theorem lk_vRX11_459 : ∀ w ∈ wsV RX11 459 RX11 yX11_isGoodFor (gW yX11_isGoodFor cX11_isGoodFor 4 (some .boolean)), w ∈ gTB := gV_in lk_mRX11_459 lk_i_X11_isGoodFor lk_e_X11_isGoodFor lk_n_RX11 lk_c_X11_isGoodFor
theorem lk_kRX11_190 : Cond.classLink RX11 190 RX6 ∈ gTB := gTm (i := 984) (by decide +kernel) rfl
theorem lk_fRX11_382 : Cond.fieldLink RX11 382 RX6 (TX6 0).2.1 (TX6 0).2.2.1 ∈ gTB := gTm (i := 991) (by decide +kernel) rfl
theorem lk_mRX11_287 : Cond.methodLink RX11 287 yX11_isTask ∈ gTB := gTm (i := 1212) (by decide +kernel) rfl
theorem lk_i_X11_isTask : Cond.instanceMethod yX11_isTask ∈ gTB := gTm (i := 1214) (by decide +kernel) rfl
theorem lk_e_X11_isTask : Cond.selects RX11 yX11_isTask yX11_isTask ∈ gTB := gTp (i := 31) (q := (yX11_isTask, 19)) (by decide +kernel)
theorem lk_c_X11_isTask : Cond.code yX11_isTask cX11_isTask 2 (some .boolean) ∈ gTB := gTm (i := 1215) (by decide +kernel) rfl
theorem lk_vRX11_287 : ∀ w ∈ wsV RX11 287 RX11 yX11_isTask (gW yX11_isTask cX11_isTask 2 (some .boolean)), w ∈ gTB := gV_in lk_mRX11_287 lk_i_X11_isTask lk_e_X11_isTask lk_n_RX11 lk_c_X11_isTask
theorem lk_kRX11_290 : Cond.classLink RX11 290 RX10 ∈ gTB := gTm (i := 419) (by decide +kernel) rfl
theorem lk_mRX7_1 : Cond.methodLink RX7 1 objectInit ∈ gTB := gTm (i := 1091) (by decide +kernel) rfl
theorem lk_kRX7_7 : Cond.classLink RX7 7 RJx4a65c ∈ gTB := gTm (i := 1092) (by decide +kernel) rfl
theorem lk_tJx4a65c : Cond.instantiable RJx4a65c 3 ∈ gTB := gTm (i := 51) (by decide +kernel) rfl
theorem dfl_Jx4a65c : ∀ j, j < 3 → defaultValue (tyJx4a65c j) = vp_V ((kF 30).map fD) j := by decide +kernel
theorem lk_c_Jx4a65c_init_da8c8 : Cond.code yJx4a65c_init_da8c8 cJx4a65c_init_da8c8 1 none ∈ gTB := gTm (i := 54) (by decide +kernel) rfl
theorem lk_mRX7_9 : Cond.methodLink RX7 9 yJx4a65c_init_da8c8 ∈ gTB := gTm (i := 1093) (by decide +kernel) rfl
theorem lk_i_Jx4a65c_init_da8c8 : Cond.instanceMethod yJx4a65c_init_da8c8 ∈ gTB := gTm (i := 53) (by decide +kernel) rfl
theorem lk_fRX7_10 : Cond.fieldLink RX7 10 RX7 (TX7 4).2.1 (TX7 4).2.2.1 ∈ gTB := gTm (i := 1103) (by decide +kernel) rfl
theorem lk_fRX7_16 : Cond.fieldLink RX7 16 RX7 (TX7 0).2.1 (TX7 0).2.2.1 ∈ gTB := gTm (i := 1094) (by decide +kernel) rfl
theorem lk_fRX7_20 : Cond.fieldLink RX7 20 RX7 (TX7 1).2.1 (TX7 1).2.2.1 ∈ gTB := gTm (i := 1097) (by decide +kernel) rfl
theorem lk_fRX7_23 : Cond.fieldLink RX7 23 RX7 (TX7 2).2.1 (TX7 2).2.2.1 ∈ gTB := gTm (i := 1099) (by decide +kernel) rfl
theorem lk_fRX7_27 : Cond.fieldLink RX7 27 RX7 (TX7 3).2.1 (TX7 3).2.2.1 ∈ gTB := gTm (i := 1101) (by decide +kernel) rfl
theorem lk_fRX8_12 : Cond.fieldLink RX8 12 RX8 (TX8 0).2.1 (TX8 0).2.2.1 ∈ gTB := gTm (i := 189) (by decide +kernel) rfl
theorem lk_mRX8_34 : Cond.methodLink RX8 34 yJx4a65c_isEmpty_aae02 ∈ gTB := gTm (i := 1238) (by decide +kernel) rfl
theorem lk_i_Jx4a65c_isEmpty_aae02 : Cond.instanceMethod yJx4a65c_isEmpty_aae02 ∈ gTB := gTm (i := 1239) (by decide +kernel) rfl
theorem lk_e_Jx4a65c_isEmpty_aae02 : Cond.selects RJx4a65c yJx4a65c_isEmpty_aae02 yJx4a65c_isEmpty_aae02 ∈ gTB := gTm (i := 1240) (by decide +kernel) rfl
theorem lk_c_Jx4a65c_isEmpty_aae02 : Cond.code yJx4a65c_isEmpty_aae02 cJx4a65c_isEmpty_aae02 1 (some .boolean) ∈ gTB := gTm (i := 1241) (by decide +kernel) rfl
theorem lk_vRX8_34 : ∀ w ∈ wsV RX8 34 RJx4a65c yJx4a65c_isEmpty_aae02 (gW yJx4a65c_isEmpty_aae02 cJx4a65c_isEmpty_aae02 1 (some .boolean)), w ∈ gTB := gV_in lk_mRX8_34 lk_i_Jx4a65c_isEmpty_aae02 lk_e_Jx4a65c_isEmpty_aae02 lk_n_RJx4a65c lk_c_Jx4a65c_isEmpty_aae02
theorem lk_mRX8_38 : Cond.methodLink RX8 38 yJx4a65c_get_915e3 ∈ gTB := gTm (i := 1221) (by decide +kernel) rfl
theorem lk_vRX8_38 : ∀ w ∈ wsV RX8 38 RJx4a65c yJx4a65c_get_915e3 (gW yJx4a65c_get_915e3 cJx4a65c_get_915e3 2 (some (.object "java/lang/Object"))), w ∈ gTB := gV_in lk_mRX8_38 lk_i_Jx4a65c_get_915e3 lk_e_Jx4a65c_get_915e3 lk_n_RJx4a65c lk_c_Jx4a65c_get_915e3
theorem lk_kRX8_26 : Cond.classLink RX8 26 RX10 ∈ gTB := gTm (i := 1222) (by decide +kernel) rfl
theorem lk_fRX8_25 : Cond.fieldLink RX8 25 RX10 (TX10 5).2.1 (TX10 5).2.2.1 ∈ gTB := gTm (i := 436) (by decide +kernel) rfl
theorem lk_mRX8_42 : Cond.methodLink RX8 42 yJx4a65c_remove_915e3 ∈ gTB := gTm (i := 1242) (by decide +kernel) rfl
theorem lk_vRX8_42 : ∀ w ∈ wsV RX8 42 RJx4a65c yJx4a65c_remove_915e3 (gW yJx4a65c_remove_915e3 cJx4a65c_remove_915e3 4 (some (.object "java/lang/Object"))), w ∈ gTB := gV_in lk_mRX8_42 lk_i_Jx4a65c_remove_915e3 lk_e_Jx4a65c_remove_915e3 lk_n_RJx4a65c lk_c_Jx4a65c_remove_915e3
theorem lk_mRX8_3 : Cond.methodLink RX8 3 objectInit ∈ gTB := gTm (i := 186) (by decide +kernel) rfl
theorem lk_kRX8_9 : Cond.classLink RX8 9 RJx4a65c ∈ gTB := gTm (i := 187) (by decide +kernel) rfl
theorem lk_mRX8_11 : Cond.methodLink RX8 11 yJx4a65c_init_da8c8 ∈ gTB := gTm (i := 188) (by decide +kernel) rfl
theorem lk_fRX8_22 : Cond.fieldLink RX8 22 RX8 (TX8 3).2.1 (TX8 3).2.2.1 ∈ gTB := gTm (i := 194) (by decide +kernel) rfl
theorem lk_mRX8_45 : Cond.methodLink RX8 45 yJx4a65c_size_8abf5 ∈ gTB := gTm (i := 1220) (by decide +kernel) rfl
theorem lk_vRX8_45 : ∀ w ∈ wsV RX8 45 RJx4a65c yJx4a65c_size_8abf5 (gW yJx4a65c_size_8abf5 cJx4a65c_size_8abf5 1 (some .int)), w ∈ gTB := gV_in lk_mRX8_45 lk_i_Jx4a65c_size_8abf5 lk_e_Jx4a65c_size_8abf5 lk_n_RJx4a65c lk_c_Jx4a65c_size_8abf5
theorem lk_mRX11_348 : Cond.methodLink RX11 348 yX11_pack ∈ gTB := gTm (i := 1356) (by decide +kernel) rfl
theorem lk_i_X11_pack : Cond.instanceMethod yX11_pack ∈ gTB := gTm (i := 1358) (by decide +kernel) rfl
theorem lk_e_X11_pack : Cond.selects RX11 yX11_pack yX11_pack ∈ gTB := gTp (i := 43) (q := (yX11_pack, 19)) (by decide +kernel)
theorem lk_c_X11_pack : Cond.code yX11_pack cX11_pack 8 none ∈ gTB := gTm (i := 1359) (by decide +kernel) rfl
theorem lk_vRX11_348 : ∀ w ∈ wsV RX11 348 RX11 yX11_pack (gW yX11_pack cX11_pack 8 none), w ∈ gTB := gV_in lk_mRX11_348 lk_i_X11_pack lk_e_X11_pack lk_n_RX11 lk_c_X11_pack
theorem lk_mRX11_455 : Cond.methodLink RX11 455 yX11_piecesGoodFor ∈ gTB := gTm (i := 473) (by decide +kernel) rfl
theorem lk_i_X11_piecesGoodFor : Cond.instanceMethod yX11_piecesGoodFor ∈ gTB := gTm (i := 475) (by decide +kernel) rfl
theorem lk_e_X11_piecesGoodFor : Cond.selects RX11 yX11_piecesGoodFor yX11_piecesGoodFor ∈ gTB := gTp (i := 10) (q := (yX11_piecesGoodFor, 19)) (by decide +kernel)
theorem lk_c_X11_piecesGoodFor : Cond.code yX11_piecesGoodFor cX11_piecesGoodFor 6 (some .int) ∈ gTB := gTm (i := 476) (by decide +kernel) rfl
theorem lk_vRX11_455 : ∀ w ∈ wsV RX11 455 RX11 yX11_piecesGoodFor (gW yX11_piecesGoodFor cX11_piecesGoodFor 6 (some .int)), w ∈ gTB := gV_in lk_mRX11_455 lk_i_X11_piecesGoodFor lk_e_X11_piecesGoodFor lk_n_RX11 lk_c_X11_piecesGoodFor
theorem lk_fRX11_454 : Cond.fieldLink RX11 454 RX4 (TX4 0).2.1 (TX4 0).2.2.1 ∈ gTB := gTm (i := 1139) (by decide +kernel) rfl
theorem lk_fRX11_198 : Cond.fieldLink RX11 198 RX6 (TX6 2).2.1 (TX6 2).2.2.1 ∈ gTB := gTm (i := 994) (by decide +kernel) rfl
theorem lk_mRX11_212 : Cond.methodLink RX11 212 yX11_piecesThatCame ∈ gTB := gTm (i := 1046) (by decide +kernel) rfl
theorem lk_i_X11_piecesThatCame : Cond.instanceMethod yX11_piecesThatCame ∈ gTB := gTm (i := 1048) (by decide +kernel) rfl
theorem lk_e_X11_piecesThatCame : Cond.selects RX11 yX11_piecesThatCame yX11_piecesThatCame ∈ gTB := gTp (i := 23) (q := (yX11_piecesThatCame, 19)) (by decide +kernel)
theorem lk_c_X11_piecesThatCame : Cond.code yX11_piecesThatCame cX11_piecesThatCame 7 (some .int) ∈ gTB := gTm (i := 1049) (by decide +kernel) rfl
theorem lk_vRX11_212 : ∀ w ∈ wsV RX11 212 RX11 yX11_piecesThatCame (gW yX11_piecesThatCame cX11_piecesThatCame 7 (some .int)), w ∈ gTB := gV_in lk_mRX11_212 lk_i_X11_piecesThatCame lk_e_X11_piecesThatCame lk_n_RX11 lk_c_X11_piecesThatCame
theorem lk_fRX11_216 : Cond.fieldLink RX11 216 RX6 (TX6 1).2.1 (TX6 1).2.2.1 ∈ gTB := gTm (i := 993) (by decide +kernel) rfl
theorem lk_mRX11_205 : Cond.methodLink RX11 205 yX0_move ∈ gTB := gTm (i := 1013) (by decide +kernel) rfl
theorem lk_i_X0_move : Cond.instanceMethod yX0_move ∈ gTB := gTm (i := 1014) (by decide +kernel) rfl
theorem lk_e_X0_move : Cond.selects RX0 yX0_move yX0_move ∈ gTB := gTm (i := 1015) (by decide +kernel) rfl
theorem lk_c_X0_move : Cond.code yX0_move cX0_move 6 none ∈ gTB := gTm (i := 1016) (by decide +kernel) rfl
theorem lk_vRX11_205 : ∀ w ∈ wsV RX11 205 RX0 yX0_move (gW yX0_move cX0_move 6 none), w ∈ gTB := gV_in lk_mRX11_205 lk_i_X0_move lk_e_X0_move lk_n_RX0 lk_c_X0_move
theorem lk_mRX11_314 : Cond.methodLink RX11 314 yX8_firstTask ∈ gTB := gTm (i := 1234) (by decide +kernel) rfl
theorem lk_i_X8_firstTask : Cond.instanceMethod yX8_firstTask ∈ gTB := gTm (i := 1235) (by decide +kernel) rfl
theorem lk_e_X8_firstTask : Cond.selects RX8 yX8_firstTask yX8_firstTask ∈ gTB := gTm (i := 1236) (by decide +kernel) rfl
theorem lk_c_X8_firstTask : Cond.code yX8_firstTask cX8_firstTask 1 (some (.object RX10)) ∈ gTB := gTm (i := 1237) (by decide +kernel) rfl
theorem lk_vRX11_314 : ∀ w ∈ wsV RX11 314 RX8 yX8_firstTask (gW yX8_firstTask cX8_firstTask 1 (some (.object RX10))), w ∈ gTB := gV_in lk_mRX11_314 lk_i_X8_firstTask lk_e_X8_firstTask lk_n_RX8 lk_c_X8_firstTask
theorem lk_fRX11_318 : Cond.fieldLink RX11 318 RX10 (TX10 0).2.1 (TX10 0).2.2.1 ∈ gTB := gTm (i := 426) (by decide +kernel) rfl
theorem lk_fRX11_500 : Cond.fieldLink RX11 500 RX10 (TX10 2).2.1 (TX10 2).2.2.1 ∈ gTB := gTm (i := 430) (by decide +kernel) rfl
theorem lk_mRX11_436 : Cond.methodLink RX11 436 yX11_dropEmptyHoldings ∈ gTB := gTm (i := 1278) (by decide +kernel) rfl
theorem lk_i_X11_dropEmptyHoldings : Cond.instanceMethod yX11_dropEmptyHoldings ∈ gTB := gTm (i := 1280) (by decide +kernel) rfl
theorem lk_e_X11_dropEmptyHoldings : Cond.selects RX11 yX11_dropEmptyHoldings yX11_dropEmptyHoldings ∈ gTB := gTp (i := 38) (q := (yX11_dropEmptyHoldings, 19)) (by decide +kernel)
theorem lk_c_X11_dropEmptyHoldings : Cond.code yX11_dropEmptyHoldings cX11_dropEmptyHoldings 2 none ∈ gTB := gTm (i := 1281) (by decide +kernel) rfl
theorem lk_vRX11_436 : ∀ w ∈ wsV RX11 436 RX11 yX11_dropEmptyHoldings (gW yX11_dropEmptyHoldings cX11_dropEmptyHoldings 2 none), w ∈ gTB := gV_in lk_mRX11_436 lk_i_X11_dropEmptyHoldings lk_e_X11_dropEmptyHoldings lk_n_RX11 lk_c_X11_dropEmptyHoldings
theorem lk_fRX11_507 : Cond.fieldLink RX11 507 RX4 (TX4 3).2.1 (TX4 3).2.2.1 ∈ gTB := gTm (i := 1144) (by decide +kernel) rfl
theorem lk_mRX11_3 : Cond.methodLink RX11 3 objectInit ∈ gTB := gTm (i := 41) (by decide +kernel) rfl
theorem lk_kRX11_9 : Cond.classLink RX11 9 RX9 ∈ gTB := gTm (i := 44) (by decide +kernel) rfl
theorem lk_kRX11_15 : Cond.classLink RX11 15 RX3 ∈ gTB := gTm (i := 46) (by decide +kernel) rfl
theorem lk_kRX11_21 : Cond.classLink RX11 21 RX8 ∈ gTB := gTm (i := 48) (by decide +kernel) rfl
theorem lk_kRX11_27 : Cond.classLink RX11 27 RJx4a65c ∈ gTB := gTm (i := 50) (by decide +kernel) rfl
theorem lk_mRX11_29 : Cond.methodLink RX11 29 yJx4a65c_init_da8c8 ∈ gTB := gTm (i := 52) (by decide +kernel) rfl
theorem lk_fRX11_34 : Cond.fieldLink RX11 34 RX11 (TX11 4).2.1 (TX11 4).2.2.1 ∈ gTB := gTm (i := 209) (by decide +kernel) rfl
theorem lk_kRX11_49 : Cond.classLink RX11 49 RX0 ∈ gTB := gTm (i := 76) (by decide +kernel) rfl
theorem lk_tX0 : Cond.instantiable RX0 8 ∈ gTB := gTm (i := 77) (by decide +kernel) rfl
theorem dfl_X0 : ∀ j, j < 8 → defaultValue (tyX0 j) = vp_V ((kF 1).map fD) j := by decide +kernel
theorem lk_c_X0_init : Cond.code yX0_init cX0_init 1 none ∈ gTB := gTm (i := 80) (by decide +kernel) rfl
theorem lk_i_X0_init : Cond.instanceMethod yX0_init ∈ gTB := gTm (i := 79) (by decide +kernel) rfl
theorem lk_kRX11_56 : Cond.classLink RX11 56 RX1 ∈ gTB := gTm (i := 129) (by decide +kernel) rfl
theorem lk_mRX11_58 : Cond.methodLink RX11 58 yX1_init ∈ gTB := gTm (i := 130) (by decide +kernel) rfl
theorem lk_tX8 : Cond.instantiable RX8 4 ∈ gTB := gTm (i := 182) (by decide +kernel) rfl
theorem dfl_X8 : ∀ j, j < 4 → defaultValue (tyX8 j) = vp_V ((kF 9).map fD) j := by decide +kernel
theorem lk_c_X8_init : Cond.code yX8_init cX8_init 1 none ∈ gTB := gTm (i := 185) (by decide +kernel) rfl
theorem lk_i_X8_init : Cond.instanceMethod yX8_init ∈ gTB := gTm (i := 184) (by decide +kernel) rfl
theorem lk_tX3 : Cond.instantiable RX3 6 ∈ gTB := gTm (i := 153) (by decide +kernel) rfl
theorem dfl_X3 : ∀ j, j < 6 → defaultValue (tyX3 j) = vp_V ((kF 4).map fD) j := by decide +kernel
theorem lk_n_RX3 : Cond.initialized RX3 ∈ gTB := gTm (i := 9) (by decide +kernel) rfl
theorem lk_c_X3_init : Cond.code yX3_init cX3_init 2 none ∈ gTB := gTm (i := 156) (by decide +kernel) rfl
theorem lk_mRX11_75 : Cond.methodLink RX11 75 yX3_init ∈ gTB := gTm (i := 154) (by decide +kernel) rfl
theorem lk_i_X3_init : Cond.instanceMethod yX3_init ∈ gTB := gTm (i := 155) (by decide +kernel) rfl
theorem lk_tX9 : Cond.instantiable RX9 5 ∈ gTB := gTm (i := 131) (by decide +kernel) rfl
theorem dfl_X9 : ∀ j, j < 5 → defaultValue (tyX9 j) = vp_V ((kF 10).map fD) j := by decide +kernel
theorem lk_n_RX9 : Cond.initialized RX9 ∈ gTB := gTm (i := 8) (by decide +kernel) rfl
theorem lk_c_X9_init : Cond.code yX9_init cX9_init 1 none ∈ gTB := gTm (i := 134) (by decide +kernel) rfl
theorem lk_i_X9_init : Cond.instanceMethod yX9_init ∈ gTB := gTm (i := 133) (by decide +kernel) rfl
theorem lk_mRX11_123 : Cond.methodLink RX11 123 yX11_hasLotOrFace ∈ gTB := gTm (i := 636) (by decide +kernel) rfl
theorem lk_i_X11_hasLotOrFace : Cond.instanceMethod yX11_hasLotOrFace ∈ gTB := gTm (i := 638) (by decide +kernel) rfl
theorem lk_e_X11_hasLotOrFace : Cond.selects RX11 yX11_hasLotOrFace yX11_hasLotOrFace ∈ gTB := gTp (i := 16) (q := (yX11_hasLotOrFace, 19)) (by decide +kernel)
theorem lk_c_X11_hasLotOrFace : Cond.code yX11_hasLotOrFace cX11_hasLotOrFace 6 (some .boolean) ∈ gTB := gTm (i := 639) (by decide +kernel) rfl
theorem lk_vRX11_123 : ∀ w ∈ wsV RX11 123 RX11 yX11_hasLotOrFace (gW yX11_hasLotOrFace cX11_hasLotOrFace 6 (some .boolean)), w ∈ gTB := gV_in lk_mRX11_123 lk_i_X11_hasLotOrFace lk_e_X11_hasLotOrFace lk_n_RX11 lk_c_X11_hasLotOrFace
theorem lk_fRX11_136 : Cond.fieldLink RX11 136 RX3 (TX3 5).2.1 (TX3 5).2.2.1 ∈ gTB := gTm (i := 168) (by decide +kernel) rfl
theorem lk_mRX11_341 : Cond.methodLink RX11 341 yX0_believeTruth ∈ gTB := gTm (i := 1266) (by decide +kernel) rfl
theorem lk_i_X0_believeTruth : Cond.instanceMethod yX0_believeTruth ∈ gTB := gTm (i := 1267) (by decide +kernel) rfl
theorem lk_e_X0_believeTruth : Cond.selects RX0 yX0_believeTruth yX0_believeTruth ∈ gTB := gTm (i := 1268) (by decide +kernel) rfl
theorem lk_c_X0_believeTruth : Cond.code yX0_believeTruth cX0_believeTruth 3 none ∈ gTB := gTm (i := 1269) (by decide +kernel) rfl
theorem lk_vRX11_341 : ∀ w ∈ wsV RX11 341 RX0 yX0_believeTruth (gW yX0_believeTruth cX0_believeTruth 3 none), w ∈ gTB := gV_in lk_mRX11_341 lk_i_X0_believeTruth lk_e_X0_believeTruth lk_n_RX0 lk_c_X0_believeTruth
theorem lk_mRX11_439 : Cond.methodLink RX11 439 yX11_cut ∈ gTB := gTm (i := 1270) (by decide +kernel) rfl
theorem lk_i_X11_cut : Cond.instanceMethod yX11_cut ∈ gTB := gTm (i := 1272) (by decide +kernel) rfl
theorem lk_e_X11_cut : Cond.selects RX11 yX11_cut yX11_cut ∈ gTB := gTp (i := 36) (q := (yX11_cut, 19)) (by decide +kernel)
theorem lk_c_X11_cut : Cond.code yX11_cut cX11_cut 4 (some .int) ∈ gTB := gTm (i := 1273) (by decide +kernel) rfl
theorem lk_vRX11_439 : ∀ w ∈ wsV RX11 439 RX11 yX11_cut (gW yX11_cut cX11_cut 4 (some .int)), w ∈ gTB := gV_in lk_mRX11_439 lk_i_X11_cut lk_e_X11_cut lk_n_RX11 lk_c_X11_cut
theorem lk_mRX11_383 : Cond.methodLink RX11 383 yX11_canTake ∈ gTB := gTm (i := 1068) (by decide +kernel) rfl
theorem lk_i_X11_canTake : Cond.instanceMethod yX11_canTake ∈ gTB := gTm (i := 1070) (by decide +kernel) rfl
theorem lk_e_X11_canTake : Cond.selects RX11 yX11_canTake yX11_canTake ∈ gTB := gTp (i := 25) (q := (yX11_canTake, 19)) (by decide +kernel)
theorem lk_c_X11_canTake : Cond.code yX11_canTake cX11_canTake 5 (some .boolean) ∈ gTB := gTm (i := 1071) (by decide +kernel) rfl
theorem lk_vRX11_383 : ∀ w ∈ wsV RX11 383 RX11 yX11_canTake (gW yX11_canTake cX11_canTake 5 (some .boolean)), w ∈ gTB := gV_in lk_mRX11_383 lk_i_X11_canTake lk_e_X11_canTake lk_n_RX11 lk_c_X11_canTake
theorem lk_mRX11_387 : Cond.methodLink RX11 387 yX11_strangeness ∈ gTB := gTm (i := 1076) (by decide +kernel) rfl
theorem lk_i_X11_strangeness : Cond.instanceMethod yX11_strangeness ∈ gTB := gTm (i := 1078) (by decide +kernel) rfl
theorem lk_e_X11_strangeness : Cond.selects RX11 yX11_strangeness yX11_strangeness ∈ gTB := gTp (i := 27) (q := (yX11_strangeness, 19)) (by decide +kernel)
theorem lk_c_X11_strangeness : Cond.code yX11_strangeness cX11_strangeness 3 (some .int) ∈ gTB := gTm (i := 1079) (by decide +kernel) rfl
theorem lk_vRX11_387 : ∀ w ∈ wsV RX11 387 RX11 yX11_strangeness (gW yX11_strangeness cX11_strangeness 3 (some .int)), w ∈ gTB := gV_in lk_mRX11_387 lk_i_X11_strangeness lk_e_X11_strangeness lk_n_RX11 lk_c_X11_strangeness
theorem lk_mRX11_345 : Cond.methodLink RX11 345 yX0_keepDoubt ∈ gTB := gTm (i := 1338) (by decide +kernel) rfl
theorem lk_i_X0_keepDoubt : Cond.instanceMethod yX0_keepDoubt ∈ gTB := gTm (i := 1339) (by decide +kernel) rfl
theorem lk_e_X0_keepDoubt : Cond.selects RX0 yX0_keepDoubt yX0_keepDoubt ∈ gTB := gTm (i := 1340) (by decide +kernel) rfl
theorem lk_c_X0_keepDoubt : Cond.code yX0_keepDoubt cX0_keepDoubt 4 none ∈ gTB := gTm (i := 1341) (by decide +kernel) rfl
theorem lk_vRX11_345 : ∀ w ∈ wsV RX11 345 RX0 yX0_keepDoubt (gW yX0_keepDoubt cX0_keepDoubt 4 none), w ∈ gTB := gV_in lk_mRX11_345 lk_i_X0_keepDoubt lk_e_X0_keepDoubt lk_n_RX0 lk_c_X0_keepDoubt
theorem lk_mRX11_337 : Cond.methodLink RX11 337 yX11_shorten ∈ gTB := gTm (i := 1262) (by decide +kernel) rfl
theorem lk_i_X11_shorten : Cond.instanceMethod yX11_shorten ∈ gTB := gTm (i := 1264) (by decide +kernel) rfl
theorem lk_e_X11_shorten : Cond.selects RX11 yX11_shorten yX11_shorten ∈ gTB := gTp (i := 35) (q := (yX11_shorten, 19)) (by decide +kernel)
theorem lk_c_X11_shorten : Cond.code yX11_shorten cX11_shorten 8 none ∈ gTB := gTm (i := 1265) (by decide +kernel) rfl
theorem lk_vRX11_337 : ∀ w ∈ wsV RX11 337 RX11 yX11_shorten (gW yX11_shorten cX11_shorten 8 none), w ∈ gTB := gV_in lk_mRX11_337 lk_i_X11_shorten lk_e_X11_shorten lk_n_RX11 lk_c_X11_shorten
theorem lk_mRX11_334 : Cond.methodLink RX11 334 yX0_isDoubted ∈ gTB := gTm (i := 1334) (by decide +kernel) rfl
theorem lk_i_X0_isDoubted : Cond.instanceMethod yX0_isDoubted ∈ gTB := gTm (i := 1335) (by decide +kernel) rfl
theorem lk_e_X0_isDoubted : Cond.selects RX0 yX0_isDoubted yX0_isDoubted ∈ gTB := gTm (i := 1336) (by decide +kernel) rfl
theorem lk_c_X0_isDoubted : Cond.code yX0_isDoubted cX0_isDoubted 4 (some .boolean) ∈ gTB := gTm (i := 1337) (by decide +kernel) rfl
theorem lk_vRX11_334 : ∀ w ∈ wsV RX11 334 RX0 yX0_isDoubted (gW yX0_isDoubted cX0_isDoubted 4 (some .boolean)), w ∈ gTB := gV_in lk_mRX11_334 lk_i_X0_isDoubted lk_e_X0_isDoubted lk_n_RX0 lk_c_X0_isDoubted
theorem lk_fRX11_490 : Cond.fieldLink RX11 490 RX10 (TX10 6).2.1 (TX10 6).2.2.1 ∈ gTB := gTm (i := 439) (by decide +kernel) rfl
theorem lk_mRX11_504 : Cond.methodLink RX11 504 yX11_finish ∈ gTB := gTm (i := 1283) (by decide +kernel) rfl
theorem lk_i_X11_finish : Cond.instanceMethod yX11_finish ∈ gTB := gTm (i := 1285) (by decide +kernel) rfl
theorem lk_e_X11_finish : Cond.selects RX11 yX11_finish yX11_finish ∈ gTB := gTp (i := 39) (q := (yX11_finish, 19)) (by decide +kernel)
theorem lk_c_X11_finish : Cond.code yX11_finish cX11_finish 3 none ∈ gTB := gTm (i := 1286) (by decide +kernel) rfl
theorem lk_vRX11_504 : ∀ w ∈ wsV RX11 504 RX11 yX11_finish (gW yX11_finish cX11_finish 3 none), w ∈ gTB := gV_in lk_mRX11_504 lk_i_X11_finish lk_e_X11_finish lk_n_RX11 lk_c_X11_finish
theorem lk_mRX11_355 : Cond.methodLink RX11 355 yX11_letGo ∈ gTB := gTm (i := 1395) (by decide +kernel) rfl
theorem lk_i_X11_letGo : Cond.instanceMethod yX11_letGo ∈ gTB := gTm (i := 1397) (by decide +kernel) rfl
theorem lk_e_X11_letGo : Cond.selects RX11 yX11_letGo yX11_letGo ∈ gTB := gTp (i := 49) (q := (yX11_letGo, 19)) (by decide +kernel)
theorem lk_c_X11_letGo : Cond.code yX11_letGo cX11_letGo 5 none ∈ gTB := gTm (i := 1398) (by decide +kernel) rfl
theorem lk_vRX11_355 : ∀ w ∈ wsV RX11 355 RX11 yX11_letGo (gW yX11_letGo cX11_letGo 5 none), w ∈ gTB := gV_in lk_mRX11_355 lk_i_X11_letGo lk_e_X11_letGo lk_n_RX11 lk_c_X11_letGo
theorem lk_mRX11_362 : Cond.methodLink RX11 362 yX11_sendStand ∈ gTB := gTm (i := 1399) (by decide +kernel) rfl
theorem lk_i_X11_sendStand : Cond.instanceMethod yX11_sendStand ∈ gTB := gTm (i := 1401) (by decide +kernel) rfl
theorem lk_e_X11_sendStand : Cond.selects RX11 yX11_sendStand yX11_sendStand ∈ gTB := gTp (i := 50) (q := (yX11_sendStand, 19)) (by decide +kernel)
theorem lk_c_X11_sendStand : Cond.code yX11_sendStand cX11_sendStand 6 (some .int) ∈ gTB := gTm (i := 1402) (by decide +kernel) rfl
theorem lk_vRX11_362 : ∀ w ∈ wsV RX11 362 RX11 yX11_sendStand (gW yX11_sendStand cX11_sendStand 6 (some .int)), w ∈ gTB := gV_in lk_mRX11_362 lk_i_X11_sendStand lk_e_X11_sendStand lk_n_RX11 lk_c_X11_sendStand
theorem lk_mRX11_487 : Cond.methodLink RX11 487 yX10_nextStation ∈ gTB := gTm (i := 1254) (by decide +kernel) rfl
theorem lk_i_X10_nextStation : Cond.instanceMethod yX10_nextStation ∈ gTB := gTm (i := 1255) (by decide +kernel) rfl
theorem lk_e_X10_nextStation : Cond.selects RX10 yX10_nextStation yX10_nextStation ∈ gTB := gTm (i := 1256) (by decide +kernel) rfl
theorem lk_n_RX10 : Cond.initialized RX10 ∈ gTB := gTm (i := 33) (by decide +kernel) rfl
theorem lk_c_X10_nextStation : Cond.code yX10_nextStation cX10_nextStation 1 (some .int) ∈ gTB := gTm (i := 1257) (by decide +kernel) rfl
theorem lk_vRX11_487 : ∀ w ∈ wsV RX11 487 RX10 yX10_nextStation (gW yX10_nextStation cX10_nextStation 1 (some .int)), w ∈ gTB := gV_in lk_mRX11_487 lk_i_X10_nextStation lk_e_X10_nextStation lk_n_RX10 lk_c_X10_nextStation
theorem lk_mRX11_493 : Cond.methodLink RX11 493 yX11_doStationInSlot ∈ gTB := gTm (i := 1258) (by decide +kernel) rfl
theorem lk_i_X11_doStationInSlot : Cond.instanceMethod yX11_doStationInSlot ∈ gTB := gTm (i := 1260) (by decide +kernel) rfl
theorem lk_e_X11_doStationInSlot : Cond.selects RX11 yX11_doStationInSlot yX11_doStationInSlot ∈ gTB := gTp (i := 34) (q := (yX11_doStationInSlot, 19)) (by decide +kernel)
theorem lk_c_X11_doStationInSlot : Cond.code yX11_doStationInSlot cX11_doStationInSlot 3 none ∈ gTB := gTm (i := 1261) (by decide +kernel) rfl
theorem lk_vRX11_493 : ∀ w ∈ wsV RX11 493 RX11 yX11_doStationInSlot (gW yX11_doStationInSlot cX11_doStationInSlot 3 none), w ∈ gTB := gV_in lk_mRX11_493 lk_i_X11_doStationInSlot lk_e_X11_doStationInSlot lk_n_RX11 lk_c_X11_doStationInSlot
theorem lk_tX2 : Cond.instantiable RX2 6 ∈ gTB := gTm (i := 318) (by decide +kernel) rfl
theorem dfl_X2 : ∀ j, j < 6 → defaultValue (tyX2 j) = vp_V ((kF 3).map fD) j := by decide +kernel
theorem lk_c_X2_init : Cond.code yX2_init cX2_init 6 none ∈ gTB := gTm (i := 321) (by decide +kernel) rfl
theorem lk_mRX11_399 : Cond.methodLink RX11 399 yX2_init ∈ gTB := gTm (i := 319) (by decide +kernel) rfl
theorem lk_i_X2_init : Cond.instanceMethod yX2_init ∈ gTB := gTm (i := 320) (by decide +kernel) rfl
theorem lk_mRX11_164 : Cond.methodLink RX11 164 yJx4a65c_add_9ea2d ∈ gTB := gTm (i := 349) (by decide +kernel) rfl
theorem lk_i_Jx4a65c_add_9ea2d : Cond.instanceMethod yJx4a65c_add_9ea2d ∈ gTB := gTm (i := 350) (by decide +kernel) rfl
theorem lk_e_Jx4a65c_add_9ea2d : Cond.selects RJx4a65c yJx4a65c_add_9ea2d yJx4a65c_add_9ea2d ∈ gTB := gTm (i := 351) (by decide +kernel) rfl
theorem lk_c_Jx4a65c_add_9ea2d : Cond.code yJx4a65c_add_9ea2d cJx4a65c_add_9ea2d 2 (some .boolean) ∈ gTB := gTm (i := 352) (by decide +kernel) rfl
theorem lk_vRX11_164 : ∀ w ∈ wsV RX11 164 RJx4a65c yJx4a65c_add_9ea2d (gW yJx4a65c_add_9ea2d cJx4a65c_add_9ea2d 2 (some .boolean)), w ∈ gTB := gV_in lk_mRX11_164 lk_i_Jx4a65c_add_9ea2d lk_e_Jx4a65c_add_9ea2d lk_n_RJx4a65c lk_c_Jx4a65c_add_9ea2d
theorem lk_tX4 : Cond.instantiable RX4 4 ∈ gTB := gTm (i := 1133) (by decide +kernel) rfl
theorem dfl_X4 : ∀ j, j < 4 → defaultValue (tyX4 j) = vp_V ((kF 5).map fD) j := by decide +kernel
theorem lk_c_X4_init : Cond.code yX4_init cX4_init 3 none ∈ gTB := gTm (i := 1136) (by decide +kernel) rfl
theorem lk_mRX11_251 : Cond.methodLink RX11 251 yX4_init ∈ gTB := gTm (i := 1134) (by decide +kernel) rfl
theorem lk_i_X4_init : Cond.instanceMethod yX4_init ∈ gTB := gTm (i := 1135) (by decide +kernel) rfl
theorem lk_tX5 : Cond.instantiable RX5 4 ∈ gTB := gTm (i := 657) (by decide +kernel) rfl
theorem dfl_X5 : ∀ j, j < 4 → defaultValue (tyX5 j) = vp_V ((kF 6).map fD) j := by decide +kernel
theorem lk_n_RX5 : Cond.initialized RX5 ∈ gTB := gTm (i := 20) (by decide +kernel) rfl
theorem lk_c_X5_init : Cond.code yX5_init cX5_init 4 none ∈ gTB := gTm (i := 660) (by decide +kernel) rfl
theorem lk_mRX11_150 : Cond.methodLink RX11 150 yX5_init ∈ gTB := gTm (i := 658) (by decide +kernel) rfl
theorem lk_i_X5_init : Cond.instanceMethod yX5_init ∈ gTB := gTm (i := 659) (by decide +kernel) rfl
theorem lk_mRX11_160 : Cond.methodLink RX11 160 yJx4a65c_add_7a177 ∈ gTB := gTm (i := 680) (by decide +kernel) rfl
theorem lk_i_Jx4a65c_add_7a177 : Cond.instanceMethod yJx4a65c_add_7a177 ∈ gTB := gTm (i := 681) (by decide +kernel) rfl
theorem lk_e_Jx4a65c_add_7a177 : Cond.selects RJx4a65c yJx4a65c_add_7a177 yJx4a65c_add_7a177 ∈ gTB := gTm (i := 682) (by decide +kernel) rfl
theorem lk_c_Jx4a65c_add_7a177 : Cond.code yJx4a65c_add_7a177 cJx4a65c_add_7a177 5 none ∈ gTB := gTm (i := 683) (by decide +kernel) rfl
theorem lk_vRX11_160 : ∀ w ∈ wsV RX11 160 RJx4a65c yJx4a65c_add_7a177 (gW yJx4a65c_add_7a177 cJx4a65c_add_7a177 5 none), w ∈ gTB := gV_in lk_mRX11_160 lk_i_Jx4a65c_add_7a177 lk_e_Jx4a65c_add_7a177 lk_n_RJx4a65c lk_c_Jx4a65c_add_7a177
theorem lk_tX10 : Cond.instantiable RX10 7 ∈ gTB := gTm (i := 420) (by decide +kernel) rfl
theorem dfl_X10 : ∀ j, j < 7 → defaultValue (tyX10 j) = vp_V ((kF 11).map fD) j := by decide +kernel
theorem lk_c_X10_init : Cond.code yX10_init cX10_init 5 none ∈ gTB := gTm (i := 423) (by decide +kernel) rfl
theorem lk_mRX11_470 : Cond.methodLink RX11 470 yX10_init ∈ gTB := gTm (i := 421) (by decide +kernel) rfl
theorem lk_i_X10_init : Cond.instanceMethod yX10_init ∈ gTB := gTm (i := 422) (by decide +kernel) rfl
theorem lk_tX6 : Cond.instantiable RX6 3 ∈ gTB := gTm (i := 985) (by decide +kernel) rfl
theorem dfl_X6 : ∀ j, j < 3 → defaultValue (tyX6 j) = vp_V ((kF 7).map fD) j := by decide +kernel
theorem lk_n_RX6 : Cond.initialized RX6 ∈ gTB := gTm (i := 31) (by decide +kernel) rfl
theorem lk_c_X6_init : Cond.code yX6_init cX6_init 3 none ∈ gTB := gTm (i := 988) (by decide +kernel) rfl
theorem lk_mRX11_192 : Cond.methodLink RX11 192 yX6_init ∈ gTB := gTm (i := 986) (by decide +kernel) rfl
theorem lk_i_X6_init : Cond.instanceMethod yX6_init ∈ gTB := gTm (i := 987) (by decide +kernel) rfl
theorem lk_tX7 : Cond.instantiable RX7 7 ∈ gTB := gTm (i := 1087) (by decide +kernel) rfl
theorem dfl_X7 : ∀ j, j < 7 → defaultValue (tyX7 j) = vp_V ((kF 8).map fD) j := by decide +kernel
theorem lk_n_RX7 : Cond.initialized RX7 ∈ gTB := gTm (i := 34) (by decide +kernel) rfl
theorem lk_c_X7_init : Cond.code yX7_init cX7_init 5 none ∈ gTB := gTm (i := 1090) (by decide +kernel) rfl
theorem lk_mRX11_237 : Cond.methodLink RX11 237 yX7_init ∈ gTB := gTm (i := 1088) (by decide +kernel) rfl
theorem lk_i_X7_init : Cond.instanceMethod yX7_init ∈ gTB := gTm (i := 1089) (by decide +kernel) rfl
theorem lk_mRX8_30 : Cond.methodLink RX8 30 yJx4a65c_add_9ea2d ∈ gTB := gTm (i := 1204) (by decide +kernel) rfl
theorem lk_vRX8_30 : ∀ w ∈ wsV RX8 30 RJx4a65c yJx4a65c_add_9ea2d (gW yJx4a65c_add_9ea2d cJx4a65c_add_9ea2d 2 (some .boolean)), w ∈ gTB := gV_in lk_mRX8_30 lk_i_Jx4a65c_add_9ea2d lk_e_Jx4a65c_add_9ea2d lk_n_RJx4a65c lk_c_Jx4a65c_add_9ea2d
theorem lk_mRX11_283 : Cond.methodLink RX11 283 yX8_take ∈ gTB := gTm (i := 1200) (by decide +kernel) rfl
theorem lk_i_X8_take : Cond.instanceMethod yX8_take ∈ gTB := gTm (i := 1201) (by decide +kernel) rfl
theorem lk_e_X8_take : Cond.selects RX8 yX8_take yX8_take ∈ gTB := gTm (i := 1202) (by decide +kernel) rfl
theorem lk_c_X8_take : Cond.code yX8_take cX8_take 2 none ∈ gTB := gTm (i := 1203) (by decide +kernel) rfl
theorem lk_vRX11_283 : ∀ w ∈ wsV RX11 283 RX8 yX8_take (gW yX8_take cX8_take 2 none), w ∈ gTB := gV_in lk_mRX11_283 lk_i_X8_take lk_e_X8_take lk_n_RX8 lk_c_X8_take
theorem lk_mRX11_295 : Cond.methodLink RX11 295 yX8_tasksInRow ∈ gTB := gTm (i := 1216) (by decide +kernel) rfl
theorem lk_i_X8_tasksInRow : Cond.instanceMethod yX8_tasksInRow ∈ gTB := gTm (i := 1217) (by decide +kernel) rfl
theorem lk_e_X8_tasksInRow : Cond.selects RX8 yX8_tasksInRow yX8_tasksInRow ∈ gTB := gTm (i := 1218) (by decide +kernel) rfl
theorem lk_c_X8_tasksInRow : Cond.code yX8_tasksInRow cX8_tasksInRow 3 (some .int) ∈ gTB := gTm (i := 1219) (by decide +kernel) rfl
theorem lk_vRX11_295 : ∀ w ∈ wsV RX11 295 RX8 yX8_tasksInRow (gW yX8_tasksInRow cX8_tasksInRow 3 (some .int)), w ∈ gTB := gV_in lk_mRX11_295 lk_i_X8_tasksInRow lk_e_X8_tasksInRow lk_n_RX8 lk_c_X8_tasksInRow
theorem lk_mRX11_223 : Cond.methodLink RX11 223 yX11_hold ∈ gTB := gTm (i := 313) (by decide +kernel) rfl
theorem lk_i_X11_hold : Cond.instanceMethod yX11_hold ∈ gTB := gTm (i := 315) (by decide +kernel) rfl
theorem lk_e_X11_hold : Cond.selects RX11 yX11_hold yX11_hold ∈ gTB := gTp (i := 3) (q := (yX11_hold, 19)) (by decide +kernel)
theorem lk_c_X11_hold : Cond.code yX11_hold cX11_hold 7 (some (.object RX2)) ∈ gTB := gTm (i := 316) (by decide +kernel) rfl
theorem lk_vRX11_223 : ∀ w ∈ wsV RX11 223 RX11 yX11_hold (gW yX11_hold cX11_hold 7 (some (.object RX2))), w ∈ gTB := gV_in lk_mRX11_223 lk_i_X11_hold lk_e_X11_hold lk_n_RX11 lk_c_X11_hold
theorem lk_mRX11_305 : Cond.methodLink RX11 305 yX11_undoStandstill ∈ gTB := gTm (i := 1291) (by decide +kernel) rfl
theorem lk_i_X11_undoStandstill : Cond.instanceMethod yX11_undoStandstill ∈ gTB := gTm (i := 1293) (by decide +kernel) rfl
theorem lk_e_X11_undoStandstill : Cond.selects RX11 yX11_undoStandstill yX11_undoStandstill ∈ gTB := gTp (i := 41) (q := (yX11_undoStandstill, 19)) (by decide +kernel)
theorem lk_c_X11_undoStandstill : Cond.code yX11_undoStandstill cX11_undoStandstill 2 none ∈ gTB := gTm (i := 1294) (by decide +kernel) rfl
theorem lk_vRX11_305 : ∀ w ∈ wsV RX11 305 RX11 yX11_undoStandstill (gW yX11_undoStandstill cX11_undoStandstill 2 none), w ∈ gTB := gV_in lk_mRX11_305 lk_i_X11_undoStandstill lk_e_X11_undoStandstill lk_n_RX11 lk_c_X11_undoStandstill
theorem lk_mRX11_301 : Cond.methodLink RX11 301 yX11_act ∈ gTB := gTm (i := 1230) (by decide +kernel) rfl
theorem lk_i_X11_act : Cond.instanceMethod yX11_act ∈ gTB := gTm (i := 1232) (by decide +kernel) rfl
theorem lk_e_X11_act : Cond.selects RX11 yX11_act yX11_act ∈ gTB := gTp (i := 32) (q := (yX11_act, 19)) (by decide +kernel)
theorem lk_c_X11_act : Cond.code yX11_act cX11_act 6 none ∈ gTB := gTm (i := 1233) (by decide +kernel) rfl
theorem lk_vRX11_301 : ∀ w ∈ wsV RX11 301 RX11 yX11_act (gW yX11_act cX11_act 6 none), w ∈ gTB := gV_in lk_mRX11_301 lk_i_X11_act lk_e_X11_act lk_n_RX11 lk_c_X11_act
theorem lk_mRX11_219 : Cond.methodLink RX11 219 yX11_slotToPutInto ∈ gTB := gTm (i := 1064) (by decide +kernel) rfl
theorem lk_i_X11_slotToPutInto : Cond.instanceMethod yX11_slotToPutInto ∈ gTB := gTm (i := 1066) (by decide +kernel) rfl
theorem lk_e_X11_slotToPutInto : Cond.selects RX11 yX11_slotToPutInto yX11_slotToPutInto ∈ gTB := gTp (i := 24) (q := (yX11_slotToPutInto, 19)) (by decide +kernel)
theorem lk_c_X11_slotToPutInto : Cond.code yX11_slotToPutInto cX11_slotToPutInto 7 (some .int) ∈ gTB := gTm (i := 1067) (by decide +kernel) rfl
theorem lk_vRX11_219 : ∀ w ∈ wsV RX11 219 RX11 yX11_slotToPutInto (gW yX11_slotToPutInto cX11_slotToPutInto 7 (some .int)), w ∈ gTB := gV_in lk_mRX11_219 lk_i_X11_slotToPutInto lk_e_X11_slotToPutInto lk_n_RX11 lk_c_X11_slotToPutInto
theorem lk_mRX11_227 : Cond.methodLink RX11 227 yX11_makeTask ∈ gTB := gTm (i := 415) (by decide +kernel) rfl
theorem lk_i_X11_makeTask : Cond.instanceMethod yX11_makeTask ∈ gTB := gTm (i := 417) (by decide +kernel) rfl
theorem lk_e_X11_makeTask : Cond.selects RX11 yX11_makeTask yX11_makeTask ∈ gTB := gTp (i := 7) (q := (yX11_makeTask, 19)) (by decide +kernel)
theorem lk_c_X11_makeTask : Cond.code yX11_makeTask cX11_makeTask 5 (some (.object RX10)) ∈ gTB := gTm (i := 418) (by decide +kernel) rfl
theorem lk_vRX11_227 : ∀ w ∈ wsV RX11 227 RX11 yX11_makeTask (gW yX11_makeTask cX11_makeTask 5 (some (.object RX10))), w ∈ gTB := gV_in lk_mRX11_227 lk_i_X11_makeTask lk_e_X11_makeTask lk_n_RX11 lk_c_X11_makeTask
theorem lk_mRX11_395 : Cond.methodLink RX11 395 yX11_slotToRefillFrom ∈ gTB := gTm (i := 294) (by decide +kernel) rfl
theorem lk_i_X11_slotToRefillFrom : Cond.instanceMethod yX11_slotToRefillFrom ∈ gTB := gTm (i := 296) (by decide +kernel) rfl
theorem lk_e_X11_slotToRefillFrom : Cond.selects RX11 yX11_slotToRefillFrom yX11_slotToRefillFrom ∈ gTB := gTp (i := 1) (q := (yX11_slotToRefillFrom, 19)) (by decide +kernel)
theorem lk_c_X11_slotToRefillFrom : Cond.code yX11_slotToRefillFrom cX11_slotToRefillFrom 3 (some .int) ∈ gTB := gTm (i := 297) (by decide +kernel) rfl
theorem lk_vRX11_395 : ∀ w ∈ wsV RX11 395 RX11 yX11_slotToRefillFrom (gW yX11_slotToRefillFrom cX11_slotToRefillFrom 3 (some .int)), w ∈ gTB := gV_in lk_mRX11_395 lk_i_X11_slotToRefillFrom lk_e_X11_slotToRefillFrom lk_n_RX11 lk_c_X11_slotToRefillFrom
theorem lk_mRX11_276 : Cond.methodLink RX11 276 yX11_holdingsForWave ∈ gTB := gTm (i := 1186) (by decide +kernel) rfl
theorem lk_i_X11_holdingsForWave : Cond.instanceMethod yX11_holdingsForWave ∈ gTB := gTm (i := 1188) (by decide +kernel) rfl
theorem lk_e_X11_holdingsForWave : Cond.selects RX11 yX11_holdingsForWave yX11_holdingsForWave ∈ gTB := gTp (i := 29) (q := (yX11_holdingsForWave, 19)) (by decide +kernel)
theorem lk_c_X11_holdingsForWave : Cond.code yX11_holdingsForWave cX11_holdingsForWave 4 (some .int) ∈ gTB := gTm (i := 1189) (by decide +kernel) rfl
theorem lk_vRX11_276 : ∀ w ∈ wsV RX11 276 RX11 yX11_holdingsForWave (gW yX11_holdingsForWave cX11_holdingsForWave 4 (some .int)), w ∈ gTB := gV_in lk_mRX11_276 lk_i_X11_holdingsForWave lk_e_X11_holdingsForWave lk_n_RX11 lk_c_X11_holdingsForWave
theorem lk_mRX11_279 : Cond.methodLink RX11 279 yX11_nextForWave ∈ gTB := gTm (i := 1193) (by decide +kernel) rfl
theorem lk_i_X11_nextForWave : Cond.instanceMethod yX11_nextForWave ∈ gTB := gTm (i := 1195) (by decide +kernel) rfl
theorem lk_e_X11_nextForWave : Cond.selects RX11 yX11_nextForWave yX11_nextForWave ∈ gTB := gTp (i := 30) (q := (yX11_nextForWave, 19)) (by decide +kernel)
theorem lk_c_X11_nextForWave : Cond.code yX11_nextForWave cX11_nextForWave 7 (some (.object RX2)) ∈ gTB := gTm (i := 1196) (by decide +kernel) rfl
theorem lk_vRX11_279 : ∀ w ∈ wsV RX11 279 RX11 yX11_nextForWave (gW yX11_nextForWave cX11_nextForWave 7 (some (.object RX2))), w ∈ gTB := gV_in lk_mRX11_279 lk_i_X11_nextForWave lk_e_X11_nextForWave lk_n_RX11 lk_c_X11_nextForWave
theorem lk_mRX11_466 : Cond.methodLink RX11 466 yX11_holdInSlots ∈ gTB := gTm (i := 485) (by decide +kernel) rfl
theorem lk_i_X11_holdInSlots : Cond.instanceMethod yX11_holdInSlots ∈ gTB := gTm (i := 487) (by decide +kernel) rfl
theorem lk_e_X11_holdInSlots : Cond.selects RX11 yX11_holdInSlots yX11_holdInSlots ∈ gTB := gTp (i := 13) (q := (yX11_holdInSlots, 19)) (by decide +kernel)
theorem lk_c_X11_holdInSlots : Cond.code yX11_holdInSlots cX11_holdInSlots 7 none ∈ gTB := gTm (i := 488) (by decide +kernel) rfl
theorem lk_vRX11_466 : ∀ w ∈ wsV RX11 466 RX11 yX11_holdInSlots (gW yX11_holdInSlots cX11_holdInSlots 7 none), w ∈ gTB := gV_in lk_mRX11_466 lk_i_X11_holdInSlots lk_e_X11_holdInSlots lk_n_RX11 lk_c_X11_holdInSlots
theorem lk_mRX11_231 : Cond.methodLink RX11 231 yX11_refillFace ∈ gTB := gTm (i := 271) (by decide +kernel) rfl
theorem lk_i_X11_refillFace : Cond.instanceMethod yX11_refillFace ∈ gTB := gTm (i := 273) (by decide +kernel) rfl
theorem lk_e_X11_refillFace : Cond.selects RX11 yX11_refillFace yX11_refillFace ∈ gTB := gTp (i := 0) (q := (yX11_refillFace, 19)) (by decide +kernel)
theorem lk_c_X11_refillFace : Cond.code yX11_refillFace cX11_refillFace 10 (some .boolean) ∈ gTB := gTm (i := 274) (by decide +kernel) rfl
theorem lk_vRX11_231 : ∀ w ∈ wsV RX11 231 RX11 yX11_refillFace (gW yX11_refillFace cX11_refillFace 10 (some .boolean)), w ∈ gTB := gV_in lk_mRX11_231 lk_i_X11_refillFace lk_e_X11_refillFace lk_n_RX11 lk_c_X11_refillFace
theorem lk_fRX11_443 : Cond.fieldLink RX11 443 RX7 (TX7 2).2.1 (TX7 2).2.2.1 ∈ gTB := gTm (i := 1100) (by decide +kernel) rfl
theorem lk_mRX11_450 : Cond.methodLink RX11 450 yX11_allocateLine ∈ gTB := gTm (i := 481) (by decide +kernel) rfl
theorem lk_i_X11_allocateLine : Cond.instanceMethod yX11_allocateLine ∈ gTB := gTm (i := 483) (by decide +kernel) rfl
theorem lk_e_X11_allocateLine : Cond.selects RX11 yX11_allocateLine yX11_allocateLine ∈ gTB := gTp (i := 12) (q := (yX11_allocateLine, 19)) (by decide +kernel)
theorem lk_c_X11_allocateLine : Cond.code yX11_allocateLine cX11_allocateLine 5 (some .int) ∈ gTB := gTm (i := 484) (by decide +kernel) rfl
theorem lk_vRX11_450 : ∀ w ∈ wsV RX11 450 RX11 yX11_allocateLine (gW yX11_allocateLine cX11_allocateLine 5 (some .int)), w ∈ gTB := gV_in lk_mRX11_450 lk_i_X11_allocateLine lk_e_X11_allocateLine lk_n_RX11 lk_c_X11_allocateLine
theorem lk_mRX11_446 : Cond.methodLink RX11 446 yX11_canBeWhole ∈ gTB := gTm (i := 464) (by decide +kernel) rfl
theorem lk_i_X11_canBeWhole : Cond.instanceMethod yX11_canBeWhole ∈ gTB := gTm (i := 466) (by decide +kernel) rfl
theorem lk_e_X11_canBeWhole : Cond.selects RX11 yX11_canBeWhole yX11_canBeWhole ∈ gTB := gTp (i := 9) (q := (yX11_canBeWhole, 19)) (by decide +kernel)
theorem lk_c_X11_canBeWhole : Cond.code yX11_canBeWhole cX11_canBeWhole 8 (some .boolean) ∈ gTB := gTm (i := 467) (by decide +kernel) rfl
theorem lk_vRX11_446 : ∀ w ∈ wsV RX11 446 RX11 yX11_canBeWhole (gW yX11_canBeWhole cX11_canBeWhole 8 (some .boolean)), w ∈ gTB := gV_in lk_mRX11_446 lk_i_X11_canBeWhole lk_e_X11_canBeWhole lk_n_RX11 lk_c_X11_canBeWhole
theorem lk_fRX11_252 : Cond.fieldLink RX11 252 RX7 (TX7 1).2.1 (TX7 1).2.2.1 ∈ gTB := gTm (i := 1098) (by decide +kernel) rfl
theorem lk_mRX11_255 : Cond.methodLink RX11 255 yX11_allocateOrder ∈ gTB := gTm (i := 460) (by decide +kernel) rfl
theorem lk_i_X11_allocateOrder : Cond.instanceMethod yX11_allocateOrder ∈ gTB := gTm (i := 462) (by decide +kernel) rfl
theorem lk_e_X11_allocateOrder : Cond.selects RX11 yX11_allocateOrder yX11_allocateOrder ∈ gTB := gTp (i := 8) (q := (yX11_allocateOrder, 19)) (by decide +kernel)
theorem lk_c_X11_allocateOrder : Cond.code yX11_allocateOrder cX11_allocateOrder 4 (some .int) ∈ gTB := gTm (i := 463) (by decide +kernel) rfl
theorem lk_vRX11_255 : ∀ w ∈ wsV RX11 255 RX11 yX11_allocateOrder (gW yX11_allocateOrder cX11_allocateOrder 4 (some .int)), w ∈ gTB := gV_in lk_mRX11_255 lk_i_X11_allocateOrder lk_e_X11_allocateOrder lk_n_RX11 lk_c_X11_allocateOrder
theorem lk_mRL_27 : Cond.methodLink RL 27 yX11_bar ∈ gTB := gTm (i := 643) (by decide +kernel) rfl
theorem lk_i_X11_bar : Cond.instanceMethod yX11_bar ∈ gTB := gTm (i := 644) (by decide +kernel) rfl
theorem lk_e_X11_bar : Cond.selects RX11 yX11_bar yX11_bar ∈ gTB := gTm (i := 645) (by decide +kernel) rfl
theorem lk_c_X11_bar : Cond.code yX11_bar cX11_bar 6 (some .boolean) ∈ gTB := gTm (i := 646) (by decide +kernel) rfl
theorem lk_vRL_27 : ∀ w ∈ wsV RL 27 RX11 yX11_bar (gW yX11_bar cX11_bar 6 (some .boolean)), w ∈ gTB := gV_in lk_mRL_27 lk_i_X11_bar lk_e_X11_bar lk_n_RX11 lk_c_X11_bar
theorem lk_xl_1 : Cond.classLink RL 13 (exN 1) ∈ gTB := gTm (i := 504) (by decide +kernel) rfl
theorem lk_mRL_86 : Cond.methodLink RL 86 yX11_where ∈ gTB := gTm (i := 1302) (by decide +kernel) rfl
theorem lk_i_X11_where : Cond.instanceMethod yX11_where ∈ gTB := gTm (i := 1303) (by decide +kernel) rfl
theorem lk_e_X11_where : Cond.selects RX11 yX11_where yX11_where ∈ gTB := gTm (i := 1304) (by decide +kernel) rfl
theorem lk_c_X11_where : Cond.code yX11_where cX11_where 3 (some .int) ∈ gTB := gTm (i := 1305) (by decide +kernel) rfl
theorem lk_vRL_86 : ∀ w ∈ wsV RL 86 RX11 yX11_where (gW yX11_where cX11_where 3 (some .int)), w ∈ gTB := gV_in lk_mRL_86 lk_i_X11_where lk_e_X11_where lk_n_RX11 lk_c_X11_where
theorem lk_mRL_101 : Cond.methodLink RL 101 yX11_find ∈ gTB := gTm (i := 1345) (by decide +kernel) rfl
theorem lk_i_X11_find : Cond.instanceMethod yX11_find ∈ gTB := gTm (i := 1346) (by decide +kernel) rfl
theorem lk_e_X11_find : Cond.selects RX11 yX11_find yX11_find ∈ gTB := gTm (i := 1347) (by decide +kernel) rfl
theorem lk_c_X11_find : Cond.code yX11_find cX11_find 4 (some .int) ∈ gTB := gTm (i := 1348) (by decide +kernel) rfl
theorem lk_vRL_101 : ∀ w ∈ wsV RL 101 RX11 yX11_find (gW yX11_find cX11_find 4 (some .int)), w ∈ gTB := gV_in lk_mRL_101 lk_i_X11_find lk_e_X11_find lk_n_RX11 lk_c_X11_find
theorem lk_xl_2 : Cond.classLink RL 15 (exN 2) ∈ gTB := gTm (i := 505) (by decide +kernel) rfl
theorem lk_mRL_41 : Cond.methodLink RL 41 yX11_free ∈ gTB := gTm (i := 966) (by decide +kernel) rfl
theorem lk_i_X11_free : Cond.instanceMethod yX11_free ∈ gTB := gTm (i := 967) (by decide +kernel) rfl
theorem lk_e_X11_free : Cond.selects RX11 yX11_free yX11_free ∈ gTB := gTm (i := 968) (by decide +kernel) rfl
theorem lk_c_X11_free : Cond.code yX11_free cX11_free 3 (some .int) ∈ gTB := gTm (i := 969) (by decide +kernel) rfl
theorem lk_vRL_41 : ∀ w ∈ wsV RL 41 RX11 yX11_free (gW yX11_free cX11_free 3 (some .int)), w ∈ gTB := gV_in lk_mRL_41 lk_i_X11_free lk_e_X11_free lk_n_RX11 lk_c_X11_free
theorem lk_mRL_95 : Cond.methodLink RL 95 yX11_lose ∈ gTB := gTm (i := 1323) (by decide +kernel) rfl
theorem lk_i_X11_lose : Cond.instanceMethod yX11_lose ∈ gTB := gTm (i := 1324) (by decide +kernel) rfl
theorem lk_e_X11_lose : Cond.selects RX11 yX11_lose yX11_lose ∈ gTB := gTm (i := 1325) (by decide +kernel) rfl
theorem lk_c_X11_lose : Cond.code yX11_lose cX11_lose 4 (some .int) ∈ gTB := gTm (i := 1326) (by decide +kernel) rfl
theorem lk_vRL_95 : ∀ w ∈ wsV RL 95 RX11 yX11_lose (gW yX11_lose cX11_lose 4 (some .int)), w ∈ gTB := gV_in lk_mRL_95 lk_i_X11_lose lk_e_X11_lose lk_n_RX11 lk_c_X11_lose
theorem lk_mRL_116 : Cond.methodLink RL 116 yX11_received ∈ gTB := gTm (i := 1413) (by decide +kernel) rfl
theorem lk_i_X11_received : Cond.instanceMethod yX11_received ∈ gTB := gTm (i := 1414) (by decide +kernel) rfl
theorem lk_e_X11_received : Cond.selects RX11 yX11_received yX11_received ∈ gTB := gTm (i := 1415) (by decide +kernel) rfl
theorem lk_c_X11_received : Cond.code yX11_received cX11_received 3 (some .int) ∈ gTB := gTm (i := 1416) (by decide +kernel) rfl
theorem lk_vRL_116 : ∀ w ∈ wsV RL 116 RX11 yX11_received (gW yX11_received cX11_received 3 (some .int)), w ∈ gTB := gV_in lk_mRL_116 lk_i_X11_received lk_e_X11_received lk_n_RX11 lk_c_X11_received
theorem lk_mRL_44 : Cond.methodLink RL 44 yX11_room ∈ gTB := gTm (i := 973) (by decide +kernel) rfl
theorem lk_i_X11_room : Cond.instanceMethod yX11_room ∈ gTB := gTm (i := 974) (by decide +kernel) rfl
theorem lk_e_X11_room : Cond.selects RX11 yX11_room yX11_room ∈ gTB := gTm (i := 975) (by decide +kernel) rfl
theorem lk_c_X11_room : Cond.code yX11_room cX11_room 2 (some .int) ∈ gTB := gTm (i := 976) (by decide +kernel) rfl
theorem lk_vRL_44 : ∀ w ∈ wsV RL 44 RX11 yX11_room (gW yX11_room cX11_room 2 (some .int)), w ∈ gTB := gV_in lk_mRL_44 lk_i_X11_room lk_e_X11_room lk_n_RX11 lk_c_X11_room
theorem lk_mRL_113 : Cond.methodLink RL 113 yX11_sent ∈ gTB := gTm (i := 1406) (by decide +kernel) rfl
theorem lk_i_X11_sent : Cond.instanceMethod yX11_sent ∈ gTB := gTm (i := 1407) (by decide +kernel) rfl
theorem lk_e_X11_sent : Cond.selects RX11 yX11_sent yX11_sent ∈ gTB := gTm (i := 1408) (by decide +kernel) rfl
theorem lk_c_X11_sent : Cond.code yX11_sent cX11_sent 3 (some .int) ∈ gTB := gTm (i := 1409) (by decide +kernel) rfl
theorem lk_vRL_113 : ∀ w ∈ wsV RL 113 RX11 yX11_sent (gW yX11_sent cX11_sent 3 (some .int)), w ∈ gTB := gV_in lk_mRL_113 lk_i_X11_sent lk_e_X11_sent lk_n_RX11 lk_c_X11_sent
theorem lk_mRL_35 : Cond.methodLink RL 35 yX11_stock ∈ gTB := gTm (i := 944) (by decide +kernel) rfl
theorem lk_i_X11_stock : Cond.instanceMethod yX11_stock ∈ gTB := gTm (i := 945) (by decide +kernel) rfl
theorem lk_e_X11_stock : Cond.selects RX11 yX11_stock yX11_stock ∈ gTB := gTm (i := 946) (by decide +kernel) rfl
theorem lk_c_X11_stock : Cond.code yX11_stock cX11_stock 3 (some .int) ∈ gTB := gTm (i := 947) (by decide +kernel) rfl
theorem lk_vRL_35 : ∀ w ∈ wsV RL 35 RX11 yX11_stock (gW yX11_stock cX11_stock 3 (some .int)), w ∈ gTB := gV_in lk_mRL_35 lk_i_X11_stock lk_e_X11_stock lk_n_RX11 lk_c_X11_stock
theorem lk_mRL_38 : Cond.methodLink RL 38 yX11_stockAnew ∈ gTB := gTm (i := 955) (by decide +kernel) rfl
theorem lk_i_X11_stockAnew : Cond.instanceMethod yX11_stockAnew ∈ gTB := gTm (i := 956) (by decide +kernel) rfl
theorem lk_e_X11_stockAnew : Cond.selects RX11 yX11_stockAnew yX11_stockAnew ∈ gTB := gTm (i := 957) (by decide +kernel) rfl
theorem lk_c_X11_stockAnew : Cond.code yX11_stockAnew cX11_stockAnew 3 (some .int) ∈ gTB := gTm (i := 958) (by decide +kernel) rfl
theorem lk_vRL_38 : ∀ w ∈ wsV RL 38 RX11 yX11_stockAnew (gW yX11_stockAnew cX11_stockAnew 3 (some .int)), w ∈ gTB := gV_in lk_mRL_38 lk_i_X11_stockAnew lk_e_X11_stockAnew lk_n_RX11 lk_c_X11_stockAnew
theorem lk_mRL_19 : Cond.methodLink RL 19 yX11_face ∈ gTB := gTm (i := 619) (by decide +kernel) rfl
theorem lk_i_X11_face : Cond.instanceMethod yX11_face ∈ gTB := gTm (i := 620) (by decide +kernel) rfl
theorem lk_e_X11_face : Cond.selects RX11 yX11_face yX11_face ∈ gTB := gTm (i := 621) (by decide +kernel) rfl
theorem lk_c_X11_face : Cond.code yX11_face cX11_face 7 none ∈ gTB := gTm (i := 622) (by decide +kernel) rfl
theorem lk_vRL_19 : ∀ w ∈ wsV RL 19 RX11 yX11_face (gW yX11_face cX11_face 7 none), w ∈ gTB := gV_in lk_mRL_19 lk_i_X11_face lk_e_X11_face lk_n_RX11 lk_c_X11_face
theorem lk_xl_3 : Cond.classLink RL 17 (exN 3) ∈ gTB := gTm (i := 506) (by decide +kernel) rfl
theorem lk_mRL_74 : Cond.methodLink RL 74 yX11_held ∈ gTB := gTm (i := 1164) (by decide +kernel) rfl
theorem lk_i_X11_held : Cond.instanceMethod yX11_held ∈ gTB := gTm (i := 1165) (by decide +kernel) rfl
theorem lk_e_X11_held : Cond.selects RX11 yX11_held yX11_held ∈ gTB := gTm (i := 1166) (by decide +kernel) rfl
theorem lk_c_X11_held : Cond.code yX11_held cX11_held 7 (some .int) ∈ gTB := gTm (i := 1167) (by decide +kernel) rfl
theorem lk_vRL_74 : ∀ w ∈ wsV RL 74 RX11 yX11_held (gW yX11_held cX11_held 7 (some .int)), w ∈ gTB := gV_in lk_mRL_74 lk_i_X11_held lk_e_X11_held lk_n_RX11 lk_c_X11_held
theorem lk_mRL_71 : Cond.methodLink RL 71 yX11_lacks ∈ gTB := gTm (i := 1157) (by decide +kernel) rfl
theorem lk_i_X11_lacks : Cond.instanceMethod yX11_lacks ∈ gTB := gTm (i := 1158) (by decide +kernel) rfl
theorem lk_e_X11_lacks : Cond.selects RX11 yX11_lacks yX11_lacks ∈ gTB := gTm (i := 1159) (by decide +kernel) rfl
theorem lk_c_X11_lacks : Cond.code yX11_lacks cX11_lacks 3 (some .int) ∈ gTB := gTm (i := 1160) (by decide +kernel) rfl
theorem lk_vRL_71 : ∀ w ∈ wsV RL 71 RX11 yX11_lacks (gW yX11_lacks cX11_lacks 3 (some .int)), w ∈ gTB := gV_in lk_mRL_71 lk_i_X11_lacks lk_e_X11_lacks lk_n_RX11 lk_c_X11_lacks
theorem lk_mRL_7 : Cond.methodLink RL 7 yX11_slot ∈ gTB := gTm (i := 507) (by decide +kernel) rfl
theorem lk_i_X11_slot : Cond.instanceMethod yX11_slot ∈ gTB := gTm (i := 508) (by decide +kernel) rfl
theorem lk_e_X11_slot : Cond.selects RX11 yX11_slot yX11_slot ∈ gTB := gTm (i := 509) (by decide +kernel) rfl
theorem lk_c_X11_slot : Cond.code yX11_slot cX11_slot 4 none ∈ gTB := gTm (i := 510) (by decide +kernel) rfl
theorem lk_vRL_7 : ∀ w ∈ wsV RL 7 RX11 yX11_slot (gW yX11_slot cX11_slot 4 none), w ∈ gTB := gV_in lk_mRL_7 lk_i_X11_slot lk_e_X11_slot lk_n_RX11 lk_c_X11_slot
theorem lk_mRL_92 : Cond.methodLink RL 92 yX11_taskAt ∈ gTB := gTm (i := 1316) (by decide +kernel) rfl
theorem lk_i_X11_taskAt : Cond.instanceMethod yX11_taskAt ∈ gTB := gTm (i := 1317) (by decide +kernel) rfl
theorem lk_e_X11_taskAt : Cond.selects RX11 yX11_taskAt yX11_taskAt ∈ gTB := gTm (i := 1318) (by decide +kernel) rfl
theorem lk_c_X11_taskAt : Cond.code yX11_taskAt cX11_taskAt 3 (some .int) ∈ gTB := gTm (i := 1319) (by decide +kernel) rfl
theorem lk_vRL_92 : ∀ w ∈ wsV RL 92 RX11 yX11_taskAt (gW yX11_taskAt cX11_taskAt 3 (some .int)), w ∈ gTB := gV_in lk_mRL_92 lk_i_X11_taskAt lk_e_X11_taskAt lk_n_RX11 lk_c_X11_taskAt
theorem lk_mRL_107 : Cond.methodLink RL 107 yX11_boxAt ∈ gTB := gTm (i := 1384) (by decide +kernel) rfl
theorem lk_i_X11_boxAt : Cond.instanceMethod yX11_boxAt ∈ gTB := gTm (i := 1385) (by decide +kernel) rfl
theorem lk_e_X11_boxAt : Cond.selects RX11 yX11_boxAt yX11_boxAt ∈ gTB := gTm (i := 1386) (by decide +kernel) rfl
theorem lk_c_X11_boxAt : Cond.code yX11_boxAt cX11_boxAt 3 (some .int) ∈ gTB := gTm (i := 1387) (by decide +kernel) rfl
theorem lk_vRL_107 : ∀ w ∈ wsV RL 107 RX11 yX11_boxAt (gW yX11_boxAt cX11_boxAt 3 (some .int)), w ∈ gTB := gV_in lk_mRL_107 lk_i_X11_boxAt lk_e_X11_boxAt lk_n_RX11 lk_c_X11_boxAt
theorem lk_mRL_104 : Cond.methodLink RL 104 yX11_boxes ∈ gTB := gTm (i := 1352) (by decide +kernel) rfl
theorem lk_i_X11_boxes : Cond.instanceMethod yX11_boxes ∈ gTB := gTm (i := 1353) (by decide +kernel) rfl
theorem lk_e_X11_boxes : Cond.selects RX11 yX11_boxes yX11_boxes ∈ gTB := gTm (i := 1354) (by decide +kernel) rfl
theorem lk_c_X11_boxes : Cond.code yX11_boxes cX11_boxes 2 (some .int) ∈ gTB := gTm (i := 1355) (by decide +kernel) rfl
theorem lk_vRL_104 : ∀ w ∈ wsV RL 104 RX11 yX11_boxes (gW yX11_boxes cX11_boxes 2 (some .int)), w ∈ gTB := gV_in lk_mRL_104 lk_i_X11_boxes lk_e_X11_boxes lk_n_RX11 lk_c_X11_boxes
theorem lk_mRL_55 : Cond.methodLink RL 55 yX11_close ∈ gTB := gTm (i := 1042) (by decide +kernel) rfl
theorem lk_i_X11_close : Cond.instanceMethod yX11_close ∈ gTB := gTm (i := 1043) (by decide +kernel) rfl
theorem lk_e_X11_close : Cond.selects RX11 yX11_close yX11_close ∈ gTB := gTm (i := 1044) (by decide +kernel) rfl
theorem lk_c_X11_close : Cond.code yX11_close cX11_close 3 (some .int) ∈ gTB := gTm (i := 1045) (by decide +kernel) rfl
theorem lk_vRL_55 : ∀ w ∈ wsV RL 55 RX11 yX11_close (gW yX11_close cX11_close 3 (some .int)), w ∈ gTB := gV_in lk_mRL_55 lk_i_X11_close lk_e_X11_close lk_n_RX11 lk_c_X11_close
theorem lk_mRL_119 : Cond.methodLink RL 119 yX11_comeBack ∈ gTB := gTm (i := 1420) (by decide +kernel) rfl
theorem lk_i_X11_comeBack : Cond.instanceMethod yX11_comeBack ∈ gTB := gTm (i := 1421) (by decide +kernel) rfl
theorem lk_e_X11_comeBack : Cond.selects RX11 yX11_comeBack yX11_comeBack ∈ gTB := gTm (i := 1422) (by decide +kernel) rfl
theorem lk_c_X11_comeBack : Cond.code yX11_comeBack cX11_comeBack 4 (some .int) ∈ gTB := gTm (i := 1423) (by decide +kernel) rfl
theorem lk_vRL_119 : ∀ w ∈ wsV RL 119 RX11 yX11_comeBack (gW yX11_comeBack cX11_comeBack 4 (some .int)), w ∈ gTB := gV_in lk_mRL_119 lk_i_X11_comeBack lk_e_X11_comeBack lk_n_RX11 lk_c_X11_comeBack
theorem lk_mRL_89 : Cond.methodLink RL 89 yX11_doing ∈ gTB := gTm (i := 1309) (by decide +kernel) rfl
theorem lk_i_X11_doing : Cond.instanceMethod yX11_doing ∈ gTB := gTm (i := 1310) (by decide +kernel) rfl
theorem lk_e_X11_doing : Cond.selects RX11 yX11_doing yX11_doing ∈ gTB := gTm (i := 1311) (by decide +kernel) rfl
theorem lk_c_X11_doing : Cond.code yX11_doing cX11_doing 3 (some .int) ∈ gTB := gTm (i := 1312) (by decide +kernel) rfl
theorem lk_vRL_89 : ∀ w ∈ wsV RL 89 RX11 yX11_doing (gW yX11_doing cX11_doing 3 (some .int)), w ∈ gTB := gV_in lk_mRL_89 lk_i_X11_doing lk_e_X11_doing lk_n_RX11 lk_c_X11_doing
theorem lk_mRL_23 : Cond.methodLink RL 23 yX11_item ∈ gTB := gTm (i := 629) (by decide +kernel) rfl
theorem lk_i_X11_item : Cond.instanceMethod yX11_item ∈ gTB := gTm (i := 630) (by decide +kernel) rfl
theorem lk_e_X11_item : Cond.selects RX11 yX11_item yX11_item ∈ gTB := gTm (i := 631) (by decide +kernel) rfl
theorem lk_c_X11_item : Cond.code yX11_item cX11_item 7 none ∈ gTB := gTm (i := 632) (by decide +kernel) rfl
theorem lk_vRL_23 : ∀ w ∈ wsV RL 23 RX11 yX11_item (gW yX11_item cX11_item 7 none), w ∈ gTB := gV_in lk_mRL_23 lk_i_X11_item lk_e_X11_item lk_n_RX11 lk_c_X11_item
theorem lk_mRL_122 : Cond.methodLink RL 122 yX11_judge ∈ gTB := gTm (i := 1427) (by decide +kernel) rfl
theorem lk_i_X11_judge : Cond.instanceMethod yX11_judge ∈ gTB := gTm (i := 1428) (by decide +kernel) rfl
theorem lk_e_X11_judge : Cond.selects RX11 yX11_judge yX11_judge ∈ gTB := gTm (i := 1429) (by decide +kernel) rfl
theorem lk_c_X11_judge : Cond.code yX11_judge cX11_judge 4 (some .int) ∈ gTB := gTm (i := 1430) (by decide +kernel) rfl
theorem lk_vRL_122 : ∀ w ∈ wsV RL 122 RX11 yX11_judge (gW yX11_judge cX11_judge 4 (some .int)), w ∈ gTB := gV_in lk_mRL_122 lk_i_X11_judge lk_e_X11_judge lk_n_RX11 lk_c_X11_judge
theorem lk_mRL_58 : Cond.methodLink RL 58 yX11_others ∈ gTB := gTm (i := 1053) (by decide +kernel) rfl
theorem lk_i_X11_others : Cond.instanceMethod yX11_others ∈ gTB := gTm (i := 1054) (by decide +kernel) rfl
theorem lk_e_X11_others : Cond.selects RX11 yX11_others yX11_others ∈ gTB := gTm (i := 1055) (by decide +kernel) rfl
theorem lk_c_X11_others : Cond.code yX11_others cX11_others 2 (some .int) ∈ gTB := gTm (i := 1056) (by decide +kernel) rfl
theorem lk_vRL_58 : ∀ w ∈ wsV RL 58 RX11 yX11_others (gW yX11_others cX11_others 2 (some .int)), w ∈ gTB := gV_in lk_mRL_58 lk_i_X11_others lk_e_X11_others lk_n_RX11 lk_c_X11_others
theorem lk_mRL_51 : Cond.methodLink RL 51 yX11_receive ∈ gTB := gTm (i := 1005) (by decide +kernel) rfl
theorem lk_i_X11_receive : Cond.instanceMethod yX11_receive ∈ gTB := gTm (i := 1006) (by decide +kernel) rfl
theorem lk_e_X11_receive : Cond.selects RX11 yX11_receive yX11_receive ∈ gTB := gTm (i := 1007) (by decide +kernel) rfl
theorem lk_c_X11_receive : Cond.code yX11_receive cX11_receive 4 (some .int) ∈ gTB := gTm (i := 1008) (by decide +kernel) rfl
theorem lk_vRL_51 : ∀ w ∈ wsV RL 51 RX11 yX11_receive (gW yX11_receive cX11_receive 4 (some .int)), w ∈ gTB := gV_in lk_mRL_51 lk_i_X11_receive lk_e_X11_receive lk_n_RX11 lk_c_X11_receive
theorem lk_mRL_98 : Cond.methodLink RL 98 yX11_count ∈ gTB := gTm (i := 1330) (by decide +kernel) rfl
theorem lk_i_X11_count : Cond.instanceMethod yX11_count ∈ gTB := gTm (i := 1331) (by decide +kernel) rfl
theorem lk_e_X11_count : Cond.selects RX11 yX11_count yX11_count ∈ gTB := gTm (i := 1332) (by decide +kernel) rfl
theorem lk_c_X11_count : Cond.code yX11_count cX11_count 6 (some .int) ∈ gTB := gTm (i := 1333) (by decide +kernel) rfl
theorem lk_vRL_98 : ∀ w ∈ wsV RL 98 RX11 yX11_count (gW yX11_count cX11_count 6 (some .int)), w ∈ gTB := gV_in lk_mRL_98 lk_i_X11_count lk_e_X11_count lk_n_RX11 lk_c_X11_count
theorem lk_mRL_126 : Cond.methodLink RL 126 yX11_recall ∈ gTB := gTm (i := 1434) (by decide +kernel) rfl
theorem lk_i_X11_recall : Cond.instanceMethod yX11_recall ∈ gTB := gTm (i := 1435) (by decide +kernel) rfl
theorem lk_e_X11_recall : Cond.selects RX11 yX11_recall yX11_recall ∈ gTB := gTm (i := 1436) (by decide +kernel) rfl
theorem lk_c_X11_recall : Cond.code yX11_recall cX11_recall 5 (some .int) ∈ gTB := gTm (i := 1437) (by decide +kernel) rfl
theorem lk_vRL_126 : ∀ w ∈ wsV RL 126 RX11 yX11_recall (gW yX11_recall cX11_recall 5 (some .int)), w ∈ gTB := gV_in lk_mRL_126 lk_i_X11_recall lk_e_X11_recall lk_n_RX11 lk_c_X11_recall
theorem lk_mRL_110 : Cond.methodLink RL 110 yX11_send ∈ gTB := gTm (i := 1391) (by decide +kernel) rfl
theorem lk_i_X11_send : Cond.instanceMethod yX11_send ∈ gTB := gTm (i := 1392) (by decide +kernel) rfl
theorem lk_e_X11_send : Cond.selects RX11 yX11_send yX11_send ∈ gTB := gTm (i := 1393) (by decide +kernel) rfl
theorem lk_c_X11_send : Cond.code yX11_send cX11_send 3 (some .int) ∈ gTB := gTm (i := 1394) (by decide +kernel) rfl
theorem lk_vRL_110 : ∀ w ∈ wsV RL 110 RX11 yX11_send (gW yX11_send cX11_send 3 (some .int)), w ∈ gTB := gV_in lk_mRL_110 lk_i_X11_send lk_e_X11_send lk_n_RX11 lk_c_X11_send
theorem lk_mRL_68 : Cond.methodLink RL 68 yX11_line ∈ gTB := gTm (i := 1125) (by decide +kernel) rfl
theorem lk_i_X11_line : Cond.instanceMethod yX11_line ∈ gTB := gTm (i := 1126) (by decide +kernel) rfl
theorem lk_e_X11_line : Cond.selects RX11 yX11_line yX11_line ∈ gTB := gTm (i := 1127) (by decide +kernel) rfl
theorem lk_c_X11_line : Cond.code yX11_line cX11_line 5 (some .int) ∈ gTB := gTm (i := 1128) (by decide +kernel) rfl
theorem lk_vRL_68 : ∀ w ∈ wsV RL 68 RX11 yX11_line (gW yX11_line cX11_line 5 (some .int)), w ∈ gTB := gV_in lk_mRL_68 lk_i_X11_line lk_e_X11_line lk_n_RX11 lk_c_X11_line
theorem lk_mRL_31 : Cond.methodLink RL 31 yX11_lot ∈ gTB := gTm (i := 653) (by decide +kernel) rfl
theorem lk_i_X11_lot : Cond.instanceMethod yX11_lot ∈ gTB := gTm (i := 654) (by decide +kernel) rfl
theorem lk_e_X11_lot : Cond.selects RX11 yX11_lot yX11_lot ∈ gTB := gTm (i := 655) (by decide +kernel) rfl
theorem lk_c_X11_lot : Cond.code yX11_lot cX11_lot 5 (some .int) ∈ gTB := gTm (i := 656) (by decide +kernel) rfl
theorem lk_vRL_31 : ∀ w ∈ wsV RL 31 RX11 yX11_lot (gW yX11_lot cX11_lot 5 (some .int)), w ∈ gTB := gV_in lk_mRL_31 lk_i_X11_lot lk_e_X11_lot lk_n_RX11 lk_c_X11_lot
theorem lk_mRL_48 : Cond.methodLink RL 48 yX11_notice ∈ gTB := gTm (i := 980) (by decide +kernel) rfl
theorem lk_i_X11_notice : Cond.instanceMethod yX11_notice ∈ gTB := gTm (i := 981) (by decide +kernel) rfl
theorem lk_e_X11_notice : Cond.selects RX11 yX11_notice yX11_notice ∈ gTB := gTm (i := 982) (by decide +kernel) rfl
theorem lk_c_X11_notice : Cond.code yX11_notice cX11_notice 3 (some .int) ∈ gTB := gTm (i := 983) (by decide +kernel) rfl
theorem lk_vRL_48 : ∀ w ∈ wsV RL 48 RX11 yX11_notice (gW yX11_notice cX11_notice 3 (some .int)), w ∈ gTB := gV_in lk_mRL_48 lk_i_X11_notice lk_e_X11_notice lk_n_RX11 lk_c_X11_notice
theorem lk_mRL_64 : Cond.methodLink RL 64 yX11_order ∈ gTB := gTm (i := 1083) (by decide +kernel) rfl
theorem lk_i_X11_order : Cond.instanceMethod yX11_order ∈ gTB := gTm (i := 1084) (by decide +kernel) rfl
theorem lk_e_X11_order : Cond.selects RX11 yX11_order yX11_order ∈ gTB := gTm (i := 1085) (by decide +kernel) rfl
theorem lk_c_X11_order : Cond.code yX11_order cX11_order 4 (some .int) ∈ gTB := gTm (i := 1086) (by decide +kernel) rfl
theorem lk_vRL_64 : ∀ w ∈ wsV RL 64 RX11 yX11_order (gW yX11_order cX11_order 4 (some .int)), w ∈ gTB := gV_in lk_mRL_64 lk_i_X11_order lk_e_X11_order lk_n_RX11 lk_c_X11_order
theorem lk_mRL_80 : Cond.methodLink RL 80 yX11_give ∈ gTB := gTm (i := 1208) (by decide +kernel) rfl
theorem lk_i_X11_give : Cond.instanceMethod yX11_give ∈ gTB := gTm (i := 1209) (by decide +kernel) rfl
theorem lk_e_X11_give : Cond.selects RX11 yX11_give yX11_give ∈ gTB := gTm (i := 1210) (by decide +kernel) rfl
theorem lk_c_X11_give : Cond.code yX11_give cX11_give 3 (some .int) ∈ gTB := gTm (i := 1211) (by decide +kernel) rfl
theorem lk_vRL_80 : ∀ w ∈ wsV RL 80 RX11 yX11_give (gW yX11_give cX11_give 3 (some .int)), w ∈ gTB := gV_in lk_mRL_80 lk_i_X11_give lk_e_X11_give lk_n_RX11 lk_c_X11_give
theorem lk_mRL_83 : Cond.methodLink RL 83 yX11_pass ∈ gTB := gTm (i := 1226) (by decide +kernel) rfl
theorem lk_i_X11_pass : Cond.instanceMethod yX11_pass ∈ gTB := gTm (i := 1227) (by decide +kernel) rfl
theorem lk_e_X11_pass : Cond.selects RX11 yX11_pass yX11_pass ∈ gTB := gTm (i := 1228) (by decide +kernel) rfl
theorem lk_c_X11_pass : Cond.code yX11_pass cX11_pass 7 (some .int) ∈ gTB := gTm (i := 1229) (by decide +kernel) rfl
theorem lk_vRL_83 : ∀ w ∈ wsV RL 83 RX11 yX11_pass (gW yX11_pass cX11_pass 7 (some .int)), w ∈ gTB := gV_in lk_mRL_83 lk_i_X11_pass lk_e_X11_pass lk_n_RX11 lk_c_X11_pass
theorem lk_mRL_61 : Cond.methodLink RL 61 yX11_putAway ∈ gTB := gTm (i := 1060) (by decide +kernel) rfl
theorem lk_i_X11_putAway : Cond.instanceMethod yX11_putAway ∈ gTB := gTm (i := 1061) (by decide +kernel) rfl
theorem lk_e_X11_putAway : Cond.selects RX11 yX11_putAway yX11_putAway ∈ gTB := gTm (i := 1062) (by decide +kernel) rfl
theorem lk_c_X11_putAway : Cond.code yX11_putAway cX11_putAway 5 (some .int) ∈ gTB := gTm (i := 1063) (by decide +kernel) rfl
theorem lk_vRL_61 : ∀ w ∈ wsV RL 61 RX11 yX11_putAway (gW yX11_putAway cX11_putAway 5 (some .int)), w ∈ gTB := gV_in lk_mRL_61 lk_i_X11_putAway lk_e_X11_putAway lk_n_RX11 lk_c_X11_putAway
theorem lk_mRL_77 : Cond.methodLink RL 77 yX11_wave ∈ gTB := gTm (i := 1179) (by decide +kernel) rfl
theorem lk_i_X11_wave : Cond.instanceMethod yX11_wave ∈ gTB := gTm (i := 1180) (by decide +kernel) rfl
theorem lk_e_X11_wave : Cond.selects RX11 yX11_wave yX11_wave ∈ gTB := gTm (i := 1181) (by decide +kernel) rfl
theorem lk_c_X11_wave : Cond.code yX11_wave cX11_wave 6 (some .int) ∈ gTB := gTm (i := 1182) (by decide +kernel) rfl
theorem lk_vRL_77 : ∀ w ∈ wsV RL 77 RX11 yX11_wave (gW yX11_wave cX11_wave 6 (some .int)), w ∈ gTB := gV_in lk_mRL_77 lk_i_X11_wave lk_e_X11_wave lk_n_RX11 lk_c_X11_wave
