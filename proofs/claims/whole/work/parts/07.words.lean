theorem gin12 : ∀ w ∈ u_ws RX12 TX12 65, w ∈ gTB := gin [1509, 1511, 1513, 1515, 1517, 1519, 1521, 1523, 1525, 1527, 1529, 1531, 1533, 1535, 1537, 1539, 1541, 1543, 1545, 1547, 1549, 1551, 1553, 1555, 1557, 1559, 1561, 1563, 1565, 1567, 1569, 1571, 1573, 1575, 1577, 1579, 1581, 1583, 1585, 1587, 1589, 1591, 1593, 1595, 1597, 1599, 1601, 1603, 1605, 1607, 1609, 1611, 1613, 1615, 1617, 1619, 1621, 1623, 1625, 1627, 1629, 1631, 1633, 1635, 1637] (by decide +kernel) (by decide +kernel)
theorem lk_fRX12_179 : Cond.fieldLink RX12 179 (TX12 0).1 (TX12 0).2.1 (TX12 0).2.2.1 ∈ gTB := gTm (i := 1444) (by decide +kernel) rfl
theorem lk_fRX12_254 : Cond.fieldLink RX12 254 (TX12 2).1 (TX12 2).2.1 (TX12 2).2.2.1 ∈ gTB := gTm (i := 1446) (by decide +kernel) rfl
theorem lk_fRX12_53 : Cond.fieldLink RX12 53 (TX12 19).1 (TX12 19).2.1 (TX12 19).2.2.1 ∈ gTB := gTm (i := 1463) (by decide +kernel) rfl
theorem lk_fRX12_59 : Cond.fieldLink RX12 59 (TX12 21).1 (TX12 21).2.1 (TX12 21).2.2.1 ∈ gTB := gTm (i := 1465) (by decide +kernel) rfl
theorem lk_fRX12_187 : Cond.fieldLink RX12 187 (TX12 15).1 (TX12 15).2.1 (TX12 15).2.2.1 ∈ gTB := gTm (i := 1459) (by decide +kernel) rfl
theorem lk_fRX12_44 : Cond.fieldLink RX12 44 (TX12 16).1 (TX12 16).2.1 (TX12 16).2.2.1 ∈ gTB := gTm (i := 1460) (by decide +kernel) rfl
theorem lk_fRX12_62 : Cond.fieldLink RX12 62 (TX12 23).1 (TX12 23).2.1 (TX12 23).2.2.1 ∈ gTB := gTm (i := 1467) (by decide +kernel) rfl
theorem lk_fRX12_71 : Cond.fieldLink RX12 71 (TX12 26).1 (TX12 26).2.1 (TX12 26).2.2.1 ∈ gTB := gTm (i := 1470) (by decide +kernel) rfl
theorem lk_fRX12_143 : Cond.fieldLink RX12 143 (TX12 53).1 (TX12 53).2.1 (TX12 53).2.2.1 ∈ gTB := gTm (i := 1497) (by decide +kernel) rfl
theorem lk_fRX12_140 : Cond.fieldLink RX12 140 (TX12 52).1 (TX12 52).2.1 (TX12 52).2.2.1 ∈ gTB := gTm (i := 1496) (by decide +kernel) rfl
theorem lk_fRX12_203 : Cond.fieldLink RX12 203 (TX12 39).1 (TX12 39).2.1 (TX12 39).2.2.1 ∈ gTB := gTm (i := 1483) (by decide +kernel) rfl
theorem lk_fRX12_161 : Cond.fieldLink RX12 161 (TX12 59).1 (TX12 59).2.1 (TX12 59).2.2.1 ∈ gTB := gTm (i := 1503) (by decide +kernel) rfl
theorem lk_fRX12_158 : Cond.fieldLink RX12 158 (TX12 58).1 (TX12 58).2.1 (TX12 58).2.2.1 ∈ gTB := gTm (i := 1502) (by decide +kernel) rfl
theorem lk_fRX12_116 : Cond.fieldLink RX12 116 (TX12 43).1 (TX12 43).2.1 (TX12 43).2.2.1 ∈ gTB := gTm (i := 1487) (by decide +kernel) rfl
theorem lk_fRX12_119 : Cond.fieldLink RX12 119 (TX12 44).1 (TX12 44).2.1 (TX12 44).2.2.1 ∈ gTB := gTm (i := 1488) (by decide +kernel) rfl
theorem lk_fRX12_167 : Cond.fieldLink RX12 167 (TX12 61).1 (TX12 61).2.1 (TX12 61).2.2.1 ∈ gTB := gTm (i := 1505) (by decide +kernel) rfl
theorem lk_fRX12_28 : Cond.fieldLink RX12 28 (TX12 10).1 (TX12 10).2.1 (TX12 10).2.2.1 ∈ gTB := gTm (i := 1454) (by decide +kernel) rfl
theorem lk_fRX12_176 : Cond.fieldLink RX12 176 (TX12 64).1 (TX12 64).2.1 (TX12 64).2.2.1 ∈ gTB := gTm (i := 1508) (by decide +kernel) rfl
theorem lk_fRX12_40 : Cond.fieldLink RX12 40 (TX12 14).1 (TX12 14).2.1 (TX12 14).2.2.1 ∈ gTB := gTm (i := 1458) (by decide +kernel) rfl
theorem lk_fRX12_34 : Cond.fieldLink RX12 34 (TX12 12).1 (TX12 12).2.1 (TX12 12).2.2.1 ∈ gTB := gTm (i := 1456) (by decide +kernel) rfl
theorem lk_fRX12_170 : Cond.fieldLink RX12 170 (TX12 62).1 (TX12 62).2.1 (TX12 62).2.2.1 ∈ gTB := gTm (i := 1506) (by decide +kernel) rfl
theorem lk_fRX12_31 : Cond.fieldLink RX12 31 (TX12 11).1 (TX12 11).2.1 (TX12 11).2.2.1 ∈ gTB := gTm (i := 1455) (by decide +kernel) rfl
theorem lk_fRX12_107 : Cond.fieldLink RX12 107 (TX12 40).1 (TX12 40).2.1 (TX12 40).2.2.1 ∈ gTB := gTm (i := 1484) (by decide +kernel) rfl
theorem lk_fRX12_149 : Cond.fieldLink RX12 149 (TX12 55).1 (TX12 55).2.1 (TX12 55).2.2.1 ∈ gTB := gTm (i := 1499) (by decide +kernel) rfl
theorem lk_fRX12_101 : Cond.fieldLink RX12 101 (TX12 37).1 (TX12 37).2.1 (TX12 37).2.2.1 ∈ gTB := gTm (i := 1481) (by decide +kernel) rfl
theorem lk_fRX12_104 : Cond.fieldLink RX12 104 (TX12 38).1 (TX12 38).2.1 (TX12 38).2.2.1 ∈ gTB := gTm (i := 1482) (by decide +kernel) rfl
theorem lk_fRX12_122 : Cond.fieldLink RX12 122 (TX12 46).1 (TX12 46).2.1 (TX12 46).2.2.1 ∈ gTB := gTm (i := 1490) (by decide +kernel) rfl
theorem lk_fRX12_196 : Cond.fieldLink RX12 196 (TX12 45).1 (TX12 45).2.1 (TX12 45).2.2.1 ∈ gTB := gTm (i := 1489) (by decide +kernel) rfl
theorem lk_fRX12_125 : Cond.fieldLink RX12 125 (TX12 47).1 (TX12 47).2.1 (TX12 47).2.2.1 ∈ gTB := gTm (i := 1491) (by decide +kernel) rfl
theorem lk_fRX12_128 : Cond.fieldLink RX12 128 (TX12 48).1 (TX12 48).2.1 (TX12 48).2.2.1 ∈ gTB := gTm (i := 1492) (by decide +kernel) rfl
theorem lk_fRX12_131 : Cond.fieldLink RX12 131 (TX12 49).1 (TX12 49).2.1 (TX12 49).2.2.1 ∈ gTB := gTm (i := 1493) (by decide +kernel) rfl
theorem lk_fRX12_134 : Cond.fieldLink RX12 134 (TX12 50).1 (TX12 50).2.1 (TX12 50).2.2.1 ∈ gTB := gTm (i := 1494) (by decide +kernel) rfl
theorem lk_fRX12_137 : Cond.fieldLink RX12 137 (TX12 51).1 (TX12 51).2.1 (TX12 51).2.2.1 ∈ gTB := gTm (i := 1495) (by decide +kernel) rfl
theorem lk_fRX12_146 : Cond.fieldLink RX12 146 (TX12 54).1 (TX12 54).2.1 (TX12 54).2.2.1 ∈ gTB := gTm (i := 1498) (by decide +kernel) rfl
theorem lk_fRX12_47 : Cond.fieldLink RX12 47 (TX12 17).1 (TX12 17).2.1 (TX12 17).2.2.1 ∈ gTB := gTm (i := 1461) (by decide +kernel) rfl
theorem lk_fRX12_50 : Cond.fieldLink RX12 50 (TX12 18).1 (TX12 18).2.1 (TX12 18).2.2.1 ∈ gTB := gTm (i := 1462) (by decide +kernel) rfl
theorem lk_fRX12_155 : Cond.fieldLink RX12 155 (TX12 57).1 (TX12 57).2.1 (TX12 57).2.2.1 ∈ gTB := gTm (i := 1501) (by decide +kernel) rfl
theorem lk_fRX12_359 : Cond.fieldLink RX12 359 (TX12 3).1 (TX12 3).2.1 (TX12 3).2.2.1 ∈ gTB := gTm (i := 1447) (by decide +kernel) rfl
theorem lk_fRX12_110 : Cond.fieldLink RX12 110 (TX12 41).1 (TX12 41).2.1 (TX12 41).2.2.1 ∈ gTB := gTm (i := 1485) (by decide +kernel) rfl
theorem lk_fRX12_113 : Cond.fieldLink RX12 113 (TX12 42).1 (TX12 42).2.1 (TX12 42).2.2.1 ∈ gTB := gTm (i := 1486) (by decide +kernel) rfl
theorem lk_mRX12_183 : Cond.methodLink RX12 183 yX12_isIn ∈ gTB := gTm (i := 1652) (by decide +kernel) rfl
theorem lk_s_X12_isIn : Cond.static yX12_isIn ∈ gTB := gTm (i := 1653) (by decide +kernel) rfl
theorem lk_n_RX12 : Cond.initialized RX12 ∈ gTB := gTm (i := 11) (by decide +kernel) rfl
theorem lk_c_X12_isIn : Cond.code yX12_isIn cX12_isIn 3 (some .boolean) ∈ gTB := gTm (i := 1654) (by decide +kernel) rfl
theorem lk_sRX12_183 : ∀ w ∈ wsS RX12 183 yX12_isIn (gW yX12_isIn cX12_isIn 3 (some .boolean)), w ∈ gTB := gS_in lk_mRX12_183 lk_s_X12_isIn lk_n_RX12 lk_c_X12_isIn
theorem lk_mRX12_199 : Cond.methodLink RX12 199 yX12_isOn ∈ gTB := gTm (i := 1663) (by decide +kernel) rfl
theorem lk_i_X12_isOn : Cond.instanceMethod yX12_isOn ∈ gTB := gTm (i := 1665) (by decide +kernel) rfl
theorem lk_e_X12_isOn : Cond.selects RX12 yX12_isOn yX12_isOn ∈ gTB := gTp (i := 53) (q := (yX12_isOn, 65)) (by decide +kernel)
theorem lk_c_X12_isOn : Cond.code yX12_isOn cX12_isOn 2 (some .boolean) ∈ gTB := gTm (i := 1666) (by decide +kernel) rfl
theorem lk_vRX12_199 : ∀ w ∈ wsV RX12 199 RX12 yX12_isOn (gW yX12_isOn cX12_isOn 2 (some .boolean)), w ∈ gTB := gV_in lk_mRX12_199 lk_i_X12_isOn lk_e_X12_isOn lk_n_RX12 lk_c_X12_isOn
theorem lk_mRX12_350 : Cond.methodLink RX12 350 yX12_nextOf ∈ gTB := gTm (i := 1925) (by decide +kernel) rfl
theorem lk_i_X12_nextOf : Cond.instanceMethod yX12_nextOf ∈ gTB := gTm (i := 1927) (by decide +kernel) rfl
theorem lk_e_X12_nextOf : Cond.selects RX12 yX12_nextOf yX12_nextOf ∈ gTB := gTp (i := 91) (q := (yX12_nextOf, 65)) (by decide +kernel)
theorem lk_c_X12_nextOf : Cond.code yX12_nextOf cX12_nextOf 4 (some .int) ∈ gTB := gTm (i := 1928) (by decide +kernel) rfl
theorem lk_vRX12_350 : ∀ w ∈ wsV RX12 350 RX12 yX12_nextOf (gW yX12_nextOf cX12_nextOf 4 (some .int)), w ∈ gTB := gV_in lk_mRX12_350 lk_i_X12_nextOf lk_e_X12_nextOf lk_n_RX12 lk_c_X12_nextOf
theorem lk_fRX12_190 : Cond.fieldLink RX12 190 (TX12 22).1 (TX12 22).2.1 (TX12 22).2.2.1 ∈ gTB := gTm (i := 1466) (by decide +kernel) rfl
theorem lk_fRX12_193 : Cond.fieldLink RX12 193 (TX12 27).1 (TX12 27).2.1 (TX12 27).2.2.1 ∈ gTB := gTm (i := 1471) (by decide +kernel) rfl
theorem lk_mRX12_281 : Cond.methodLink RX12 281 yX12_less ∈ gTB := gTm (i := 1804) (by decide +kernel) rfl
theorem lk_s_X12_less : Cond.static yX12_less ∈ gTB := gTm (i := 1805) (by decide +kernel) rfl
theorem lk_c_X12_less : Cond.code yX12_less cX12_less 2 (some .int) ∈ gTB := gTm (i := 1806) (by decide +kernel) rfl
theorem lk_sRX12_281 : ∀ w ∈ wsS RX12 281 yX12_less (gW yX12_less cX12_less 2 (some .int)), w ∈ gTB := gS_in lk_mRX12_281 lk_s_X12_less lk_n_RX12 lk_c_X12_less
theorem lk_mRX12_344 : Cond.methodLink RX12 344 yX12_ends ∈ gTB := gTm (i := 1901) (by decide +kernel) rfl
theorem lk_i_X12_ends : Cond.instanceMethod yX12_ends ∈ gTB := gTm (i := 1903) (by decide +kernel) rfl
theorem lk_e_X12_ends : Cond.selects RX12 yX12_ends yX12_ends ∈ gTB := gTp (i := 85) (q := (yX12_ends, 65)) (by decide +kernel)
theorem lk_c_X12_ends : Cond.code yX12_ends cX12_ends 7 none ∈ gTB := gTm (i := 1904) (by decide +kernel) rfl
theorem lk_vRX12_344 : ∀ w ∈ wsV RX12 344 RX12 yX12_ends (gW yX12_ends cX12_ends 7 none), w ∈ gTB := gV_in lk_mRX12_344 lk_i_X12_ends lk_e_X12_ends lk_n_RX12 lk_c_X12_ends
theorem lk_mRX12_302 : Cond.methodLink RX12 302 yX12_isFor ∈ gTB := gTm (i := 1854) (by decide +kernel) rfl
theorem lk_i_X12_isFor : Cond.instanceMethod yX12_isFor ∈ gTB := gTm (i := 1856) (by decide +kernel) rfl
theorem lk_e_X12_isFor : Cond.selects RX12 yX12_isFor yX12_isFor ∈ gTB := gTp (i := 76) (q := (yX12_isFor, 65)) (by decide +kernel)
theorem lk_c_X12_isFor : Cond.code yX12_isFor cX12_isFor 3 (some .boolean) ∈ gTB := gTm (i := 1857) (by decide +kernel) rfl
theorem lk_vRX12_302 : ∀ w ∈ wsV RX12 302 RX12 yX12_isFor (gW yX12_isFor cX12_isFor 3 (some .boolean)), w ∈ gTB := gV_in lk_mRX12_302 lk_i_X12_isFor lk_e_X12_isFor lk_n_RX12 lk_c_X12_isFor
theorem lk_mRX12_274 : Cond.methodLink RX12 274 yX12_makes ∈ gTB := gTm (i := 1788) (by decide +kernel) rfl
theorem lk_i_X12_makes : Cond.instanceMethod yX12_makes ∈ gTB := gTm (i := 1790) (by decide +kernel) rfl
theorem lk_e_X12_makes : Cond.selects RX12 yX12_makes yX12_makes ∈ gTB := gTp (i := 68) (q := (yX12_makes, 65)) (by decide +kernel)
theorem lk_c_X12_makes : Cond.code yX12_makes cX12_makes 7 (some .int) ∈ gTB := gTm (i := 1791) (by decide +kernel) rfl
theorem lk_vRX12_274 : ∀ w ∈ wsV RX12 274 RX12 yX12_makes (gW yX12_makes cX12_makes 7 (some .int)), w ∈ gTB := gV_in lk_mRX12_274 lk_i_X12_makes lk_e_X12_makes lk_n_RX12 lk_c_X12_makes
theorem lk_mRX12_305 : Cond.methodLink RX12 305 yX12_gives ∈ gTB := gTm (i := 1865) (by decide +kernel) rfl
theorem lk_i_X12_gives : Cond.instanceMethod yX12_gives ∈ gTB := gTm (i := 1867) (by decide +kernel) rfl
theorem lk_e_X12_gives : Cond.selects RX12 yX12_gives yX12_gives ∈ gTB := gTp (i := 78) (q := (yX12_gives, 65)) (by decide +kernel)
theorem lk_c_X12_gives : Cond.code yX12_gives cX12_gives 3 none ∈ gTB := gTm (i := 1868) (by decide +kernel) rfl
theorem lk_vRX12_305 : ∀ w ∈ wsV RX12 305 RX12 yX12_gives (gW yX12_gives cX12_gives 3 none), w ∈ gTB := gV_in lk_mRX12_305 lk_i_X12_gives lk_e_X12_gives lk_n_RX12 lk_c_X12_gives
theorem lk_mRX12_250 : Cond.methodLink RX12 250 yX12_books ∈ gTB := gTm (i := 1748) (by decide +kernel) rfl
theorem lk_i_X12_books : Cond.instanceMethod yX12_books ∈ gTB := gTm (i := 1750) (by decide +kernel) rfl
theorem lk_e_X12_books : Cond.selects RX12 yX12_books yX12_books ∈ gTB := gTp (i := 62) (q := (yX12_books, 65)) (by decide +kernel)
theorem lk_c_X12_books : Cond.code yX12_books cX12_books 4 none ∈ gTB := gTm (i := 1751) (by decide +kernel) rfl
theorem lk_vRX12_250 : ∀ w ∈ wsV RX12 250 RX12 yX12_books (gW yX12_books cX12_books 4 none), w ∈ gTB := gV_in lk_mRX12_250 lk_i_X12_books lk_e_X12_books lk_n_RX12 lk_c_X12_books
theorem lk_mRX12_341 : Cond.methodLink RX12 341 yX12_tidies ∈ gTB := gTm (i := 1905) (by decide +kernel) rfl
theorem lk_i_X12_tidies : Cond.instanceMethod yX12_tidies ∈ gTB := gTm (i := 1907) (by decide +kernel) rfl
theorem lk_e_X12_tidies : Cond.selects RX12 yX12_tidies yX12_tidies ∈ gTB := gTp (i := 86) (q := (yX12_tidies, 65)) (by decide +kernel)
theorem lk_c_X12_tidies : Cond.code yX12_tidies cX12_tidies 3 none ∈ gTB := gTm (i := 1908) (by decide +kernel) rfl
theorem lk_vRX12_341 : ∀ w ∈ wsV RX12 341 RX12 yX12_tidies (gW yX12_tidies cX12_tidies 3 none), w ∈ gTB := gV_in lk_mRX12_341 lk_i_X12_tidies lk_e_X12_tidies lk_n_RX12 lk_c_X12_tidies
theorem lk_mRX12_223 : Cond.methodLink RX12 223 yX12_holds ∈ gTB := gTm (i := 1671) (by decide +kernel) rfl
theorem lk_i_X12_holds : Cond.instanceMethod yX12_holds ∈ gTB := gTm (i := 1673) (by decide +kernel) rfl
theorem lk_e_X12_holds : Cond.selects RX12 yX12_holds yX12_holds ∈ gTB := gTp (i := 55) (q := (yX12_holds, 65)) (by decide +kernel)
theorem lk_c_X12_holds : Cond.code yX12_holds cX12_holds 2 (some .boolean) ∈ gTB := gTm (i := 1674) (by decide +kernel) rfl
theorem lk_vRX12_223 : ∀ w ∈ wsV RX12 223 RX12 yX12_holds (gW yX12_holds cX12_holds 2 (some .boolean)), w ∈ gTB := gV_in lk_mRX12_223 lk_i_X12_holds lk_e_X12_holds lk_n_RX12 lk_c_X12_holds
theorem lk_fRX12_74 : Cond.fieldLink RX12 74 (TX12 28).1 (TX12 28).2.1 (TX12 28).2.2.1 ∈ gTB := gTm (i := 1472) (by decide +kernel) rfl
theorem lk_fRX12_77 : Cond.fieldLink RX12 77 (TX12 29).1 (TX12 29).2.1 (TX12 29).2.2.1 ∈ gTB := gTm (i := 1473) (by decide +kernel) rfl
theorem lk_fRX12_80 : Cond.fieldLink RX12 80 (TX12 30).1 (TX12 30).2.1 (TX12 30).2.2.1 ∈ gTB := gTm (i := 1474) (by decide +kernel) rfl
theorem lk_fRX12_164 : Cond.fieldLink RX12 164 (TX12 60).1 (TX12 60).2.1 (TX12 60).2.2.1 ∈ gTB := gTm (i := 1504) (by decide +kernel) rfl
theorem lk_fRX12_173 : Cond.fieldLink RX12 173 (TX12 63).1 (TX12 63).2.1 (TX12 63).2.2.1 ∈ gTB := gTm (i := 1507) (by decide +kernel) rfl
theorem lk_mRX12_365 : Cond.methodLink RX12 365 yX12_fitsInto ∈ gTB := gTm (i := 1973) (by decide +kernel) rfl
theorem lk_i_X12_fitsInto : Cond.instanceMethod yX12_fitsInto ∈ gTB := gTm (i := 1975) (by decide +kernel) rfl
theorem lk_e_X12_fitsInto : Cond.selects RX12 yX12_fitsInto yX12_fitsInto ∈ gTB := gTp (i := 94) (q := (yX12_fitsInto, 65)) (by decide +kernel)
theorem lk_c_X12_fitsInto : Cond.code yX12_fitsInto cX12_fitsInto 6 (some .boolean) ∈ gTB := gTm (i := 1976) (by decide +kernel) rfl
theorem lk_vRX12_365 : ∀ w ∈ wsV RX12 365 RX12 yX12_fitsInto (gW yX12_fitsInto cX12_fitsInto 6 (some .boolean)), w ∈ gTB := gV_in lk_mRX12_365 lk_i_X12_fitsInto lk_e_X12_fitsInto lk_n_RX12 lk_c_X12_fitsInto
theorem lk_mRX12_214 : Cond.methodLink RX12 214 yX12_itemIn ∈ gTB := gTm (i := 1667) (by decide +kernel) rfl
theorem lk_i_X12_itemIn : Cond.instanceMethod yX12_itemIn ∈ gTB := gTm (i := 1669) (by decide +kernel) rfl
theorem lk_e_X12_itemIn : Cond.selects RX12 yX12_itemIn yX12_itemIn ∈ gTB := gTp (i := 54) (q := (yX12_itemIn, 65)) (by decide +kernel)
theorem lk_c_X12_itemIn : Cond.code yX12_itemIn cX12_itemIn 5 (some .int) ∈ gTB := gTm (i := 1670) (by decide +kernel) rfl
theorem lk_vRX12_214 : ∀ w ∈ wsV RX12 214 RX12 yX12_itemIn (gW yX12_itemIn cX12_itemIn 5 (some .int)), w ∈ gTB := gV_in lk_mRX12_214 lk_i_X12_itemIn lk_e_X12_itemIn lk_n_RX12 lk_c_X12_itemIn
theorem lk_mRX12_229 : Cond.methodLink RX12 229 yX12_isGroup ∈ gTB := gTm (i := 1686) (by decide +kernel) rfl
theorem lk_s_X12_isGroup : Cond.static yX12_isGroup ∈ gTB := gTm (i := 1687) (by decide +kernel) rfl
theorem lk_c_X12_isGroup : Cond.code yX12_isGroup cX12_isGroup 1 (some .boolean) ∈ gTB := gTm (i := 1688) (by decide +kernel) rfl
theorem lk_sRX12_229 : ∀ w ∈ wsS RX12 229 yX12_isGroup (gW yX12_isGroup cX12_isGroup 1 (some .boolean)), w ∈ gTB := gS_in lk_mRX12_229 lk_s_X12_isGroup lk_n_RX12 lk_c_X12_isGroup
theorem lk_fRX12_86 : Cond.fieldLink RX12 86 (TX12 32).1 (TX12 32).2.1 (TX12 32).2.2.1 ∈ gTB := gTm (i := 1476) (by decide +kernel) rfl
theorem lk_mRX12_371 : Cond.methodLink RX12 371 yX12_packs ∈ gTB := gTm (i := 1969) (by decide +kernel) rfl
theorem lk_i_X12_packs : Cond.instanceMethod yX12_packs ∈ gTB := gTm (i := 1971) (by decide +kernel) rfl
theorem lk_e_X12_packs : Cond.selects RX12 yX12_packs yX12_packs ∈ gTB := gTp (i := 93) (q := (yX12_packs, 65)) (by decide +kernel)
theorem lk_c_X12_packs : Cond.code yX12_packs cX12_packs 7 (some .int) ∈ gTB := gTm (i := 1972) (by decide +kernel) rfl
theorem lk_vRX12_371 : ∀ w ∈ wsV RX12 371 RX12 yX12_packs (gW yX12_packs cX12_packs 7 (some .int)), w ∈ gTB := gV_in lk_mRX12_371 lk_i_X12_packs lk_e_X12_packs lk_n_RX12 lk_c_X12_packs
theorem lk_fRX12_95 : Cond.fieldLink RX12 95 (TX12 35).1 (TX12 35).2.1 (TX12 35).2.2.1 ∈ gTB := gTm (i := 1479) (by decide +kernel) rfl
theorem lk_mRX12_247 : Cond.methodLink RX12 247 yX12_isNotice ∈ gTB := gTm (i := 1744) (by decide +kernel) rfl
theorem lk_i_X12_isNotice : Cond.instanceMethod yX12_isNotice ∈ gTB := gTm (i := 1746) (by decide +kernel) rfl
theorem lk_e_X12_isNotice : Cond.selects RX12 yX12_isNotice yX12_isNotice ∈ gTB := gTp (i := 61) (q := (yX12_isNotice, 65)) (by decide +kernel)
theorem lk_c_X12_isNotice : Cond.code yX12_isNotice cX12_isNotice 2 (some .boolean) ∈ gTB := gTm (i := 1747) (by decide +kernel) rfl
theorem lk_vRX12_247 : ∀ w ∈ wsV RX12 247 RX12 yX12_isNotice (gW yX12_isNotice cX12_isNotice 2 (some .boolean)), w ∈ gTB := gV_in lk_mRX12_247 lk_i_X12_isNotice lk_e_X12_isNotice lk_n_RX12 lk_c_X12_isNotice
theorem lk_fRX12_68 : Cond.fieldLink RX12 68 (TX12 25).1 (TX12 25).2.1 (TX12 25).2.2.1 ∈ gTB := gTm (i := 1469) (by decide +kernel) rfl
theorem lk_mRX12_257 : Cond.methodLink RX12 257 yX12_cameOf ∈ gTB := gTm (i := 1756) (by decide +kernel) rfl
theorem lk_i_X12_cameOf : Cond.instanceMethod yX12_cameOf ∈ gTB := gTm (i := 1758) (by decide +kernel) rfl
theorem lk_e_X12_cameOf : Cond.selects RX12 yX12_cameOf yX12_cameOf ∈ gTB := gTp (i := 63) (q := (yX12_cameOf, 65)) (by decide +kernel)
theorem lk_c_X12_cameOf : Cond.code yX12_cameOf cX12_cameOf 5 (some .int) ∈ gTB := gTm (i := 1759) (by decide +kernel) rfl
theorem lk_vRX12_257 : ∀ w ∈ wsV RX12 257 RX12 yX12_cameOf (gW yX12_cameOf cX12_cameOf 5 (some .int)), w ∈ gTB := gV_in lk_mRX12_257 lk_i_X12_cameOf lk_e_X12_cameOf lk_n_RX12 lk_c_X12_cameOf
theorem lk_fRX12_65 : Cond.fieldLink RX12 65 (TX12 24).1 (TX12 24).2.1 (TX12 24).2.2.1 ∈ gTB := gTm (i := 1468) (by decide +kernel) rfl
theorem lk_mRX12_287 : Cond.methodLink RX12 287 yX12_isOrder ∈ gTB := gTm (i := 1815) (by decide +kernel) rfl
theorem lk_i_X12_isOrder : Cond.instanceMethod yX12_isOrder ∈ gTB := gTm (i := 1817) (by decide +kernel) rfl
theorem lk_e_X12_isOrder : Cond.selects RX12 yX12_isOrder yX12_isOrder ∈ gTB := gTp (i := 71) (q := (yX12_isOrder, 65)) (by decide +kernel)
theorem lk_c_X12_isOrder : Cond.code yX12_isOrder cX12_isOrder 2 (some .boolean) ∈ gTB := gTm (i := 1818) (by decide +kernel) rfl
theorem lk_vRX12_287 : ∀ w ∈ wsV RX12 287 RX12 yX12_isOrder (gW yX12_isOrder cX12_isOrder 2 (some .boolean)), w ∈ gTB := gV_in lk_mRX12_287 lk_i_X12_isOrder lk_e_X12_isOrder lk_n_RX12 lk_c_X12_isOrder
theorem lk_mRX12_244 : Cond.methodLink RX12 244 yX12_arePieces ∈ gTB := gTm (i := 1737) (by decide +kernel) rfl
theorem lk_s_X12_arePieces : Cond.static yX12_arePieces ∈ gTB := gTm (i := 1738) (by decide +kernel) rfl
theorem lk_c_X12_arePieces : Cond.code yX12_arePieces cX12_arePieces 1 (some .boolean) ∈ gTB := gTm (i := 1739) (by decide +kernel) rfl
theorem lk_sRX12_244 : ∀ w ∈ wsS RX12 244 yX12_arePieces (gW yX12_arePieces cX12_arePieces 1 (some .boolean)), w ∈ gTB := gS_in lk_mRX12_244 lk_s_X12_arePieces lk_n_RX12 lk_c_X12_arePieces
theorem lk_fRX12_89 : Cond.fieldLink RX12 89 (TX12 33).1 (TX12 33).2.1 (TX12 33).2.2.1 ∈ gTB := gTm (i := 1477) (by decide +kernel) rfl
theorem lk_mRX12_232 : Cond.methodLink RX12 232 yX12_isLot ∈ gTB := gTm (i := 1705) (by decide +kernel) rfl
theorem lk_i_X12_isLot : Cond.instanceMethod yX12_isLot ∈ gTB := gTm (i := 1707) (by decide +kernel) rfl
theorem lk_e_X12_isLot : Cond.selects RX12 yX12_isLot yX12_isLot ∈ gTB := gTp (i := 57) (q := (yX12_isLot, 65)) (by decide +kernel)
theorem lk_c_X12_isLot : Cond.code yX12_isLot cX12_isLot 2 (some .boolean) ∈ gTB := gTm (i := 1708) (by decide +kernel) rfl
theorem lk_vRX12_232 : ∀ w ∈ wsV RX12 232 RX12 yX12_isLot (gW yX12_isLot cX12_isLot 2 (some .boolean)), w ∈ gTB := gV_in lk_mRX12_232 lk_i_X12_isLot lk_e_X12_isLot lk_n_RX12 lk_c_X12_isLot
theorem lk_mRX12_309 : Cond.methodLink RX12 309 yX12_isRobot ∈ gTB := gTm (i := 1847) (by decide +kernel) rfl
theorem lk_s_X12_isRobot : Cond.static yX12_isRobot ∈ gTB := gTm (i := 1848) (by decide +kernel) rfl
theorem lk_c_X12_isRobot : Cond.code yX12_isRobot cX12_isRobot 1 (some .boolean) ∈ gTB := gTm (i := 1849) (by decide +kernel) rfl
theorem lk_sRX12_309 : ∀ w ∈ wsS RX12 309 yX12_isRobot (gW yX12_isRobot cX12_isRobot 1 (some .boolean)), w ∈ gTB := gS_in lk_mRX12_309 lk_s_X12_isRobot lk_n_RX12 lk_c_X12_isRobot
theorem lk_mRX12_217 : Cond.methodLink RX12 217 yX12_isSlot ∈ gTB := gTm (i := 1649) (by decide +kernel) rfl
theorem lk_s_X12_isSlot : Cond.static yX12_isSlot ∈ gTB := gTm (i := 1650) (by decide +kernel) rfl
theorem lk_c_X12_isSlot : Cond.code yX12_isSlot cX12_isSlot 1 (some .boolean) ∈ gTB := gTm (i := 1651) (by decide +kernel) rfl
theorem lk_sRX12_217 : ∀ w ∈ wsS RX12 217 yX12_isSlot (gW yX12_isSlot cX12_isSlot 1 (some .boolean)), w ∈ gTB := gS_in lk_mRX12_217 lk_s_X12_isSlot lk_n_RX12 lk_c_X12_isSlot
theorem lk_fRX12_56 : Cond.fieldLink RX12 56 (TX12 20).1 (TX12 20).2.1 (TX12 20).2.2.1 ∈ gTB := gTm (i := 1464) (by decide +kernel) rfl
theorem lk_mRX12_206 : Cond.methodLink RX12 206 yX12_heldAt ∈ gTB := gTm (i := 1721) (by decide +kernel) rfl
theorem lk_i_X12_heldAt : Cond.instanceMethod yX12_heldAt ∈ gTB := gTm (i := 1723) (by decide +kernel) rfl
theorem lk_e_X12_heldAt : Cond.selects RX12 yX12_heldAt yX12_heldAt ∈ gTB := gTp (i := 59) (q := (yX12_heldAt, 65)) (by decide +kernel)
theorem lk_c_X12_heldAt : Cond.code yX12_heldAt cX12_heldAt 5 (some .int) ∈ gTB := gTm (i := 1724) (by decide +kernel) rfl
theorem lk_vRX12_206 : ∀ w ∈ wsV RX12 206 RX12 yX12_heldAt (gW yX12_heldAt cX12_heldAt 5 (some .int)), w ∈ gTB := gV_in lk_mRX12_206 lk_i_X12_heldAt lk_e_X12_heldAt lk_n_RX12 lk_c_X12_heldAt
theorem lk_mRX12_321 : Cond.methodLink RX12 321 yX12_isTask ∈ gTB := gTm (i := 1873) (by decide +kernel) rfl
theorem lk_i_X12_isTask : Cond.instanceMethod yX12_isTask ∈ gTB := gTm (i := 1875) (by decide +kernel) rfl
theorem lk_e_X12_isTask : Cond.selects RX12 yX12_isTask yX12_isTask ∈ gTB := gTp (i := 79) (q := (yX12_isTask, 65)) (by decide +kernel)
theorem lk_c_X12_isTask : Cond.code yX12_isTask cX12_isTask 2 (some .boolean) ∈ gTB := gTm (i := 1876) (by decide +kernel) rfl
theorem lk_vRX12_321 : ∀ w ∈ wsV RX12 321 RX12 yX12_isTask (gW yX12_isTask cX12_isTask 2 (some .boolean)), w ∈ gTB := gV_in lk_mRX12_321 lk_i_X12_isTask lk_e_X12_isTask lk_n_RX12 lk_c_X12_isTask
theorem lk_mRX12_261 : Cond.methodLink RX12 261 yX12_standsIn ∈ gTB := gTm (i := 1784) (by decide +kernel) rfl
theorem lk_i_X12_standsIn : Cond.instanceMethod yX12_standsIn ∈ gTB := gTm (i := 1786) (by decide +kernel) rfl
theorem lk_e_X12_standsIn : Cond.selects RX12 yX12_standsIn yX12_standsIn ∈ gTB := gTp (i := 67) (q := (yX12_standsIn, 65)) (by decide +kernel)
theorem lk_c_X12_standsIn : Cond.code yX12_standsIn cX12_standsIn 5 (some .boolean) ∈ gTB := gTm (i := 1787) (by decide +kernel) rfl
theorem lk_vRX12_261 : ∀ w ∈ wsV RX12 261 RX12 yX12_standsIn (gW yX12_standsIn cX12_standsIn 5 (some .boolean)), w ∈ gTB := gV_in lk_mRX12_261 lk_i_X12_standsIn lk_e_X12_standsIn lk_n_RX12 lk_c_X12_standsIn
theorem lk_mRX12_210 : Cond.methodLink RX12 210 yX12_roomHeld ∈ gTB := gTm (i := 1659) (by decide +kernel) rfl
theorem lk_i_X12_roomHeld : Cond.instanceMethod yX12_roomHeld ∈ gTB := gTm (i := 1661) (by decide +kernel) rfl
theorem lk_e_X12_roomHeld : Cond.selects RX12 yX12_roomHeld yX12_roomHeld ∈ gTB := gTp (i := 52) (q := (yX12_roomHeld, 65)) (by decide +kernel)
theorem lk_c_X12_roomHeld : Cond.code yX12_roomHeld cX12_roomHeld 4 (some .int) ∈ gTB := gTm (i := 1662) (by decide +kernel) rfl
theorem lk_vRX12_210 : ∀ w ∈ wsV RX12 210 RX12 yX12_roomHeld (gW yX12_roomHeld cX12_roomHeld 4 (some .int)), w ∈ gTB := gV_in lk_mRX12_210 lk_i_X12_roomHeld lk_e_X12_roomHeld lk_n_RX12 lk_c_X12_roomHeld
theorem lk_mRX12_226 : Cond.methodLink RX12 226 yX12_isItem ∈ gTB := gTm (i := 1679) (by decide +kernel) rfl
theorem lk_s_X12_isItem : Cond.static yX12_isItem ∈ gTB := gTm (i := 1680) (by decide +kernel) rfl
theorem lk_c_X12_isItem : Cond.code yX12_isItem cX12_isItem 1 (some .boolean) ∈ gTB := gTm (i := 1681) (by decide +kernel) rfl
theorem lk_sRX12_226 : ∀ w ∈ wsS RX12 226 yX12_isItem (gW yX12_isItem cX12_isItem 1 (some .boolean)), w ∈ gTB := gS_in lk_mRX12_226 lk_s_X12_isItem lk_n_RX12 lk_c_X12_isItem
theorem lk_fRX12_25 : Cond.fieldLink RX12 25 (TX12 9).1 (TX12 9).2.1 (TX12 9).2.2.1 ∈ gTB := gTm (i := 1453) (by decide +kernel) rfl
theorem lk_fRX12_37 : Cond.fieldLink RX12 37 (TX12 13).1 (TX12 13).2.1 (TX12 13).2.2.1 ∈ gTB := gTm (i := 1457) (by decide +kernel) rfl
theorem lk_fRX12_16 : Cond.fieldLink RX12 16 (TX12 6).1 (TX12 6).2.1 (TX12 6).2.2.1 ∈ gTB := gTm (i := 1450) (by decide +kernel) rfl
theorem lk_mRX12_290 : Cond.methodLink RX12 290 yX12_lacking ∈ gTB := gTm (i := 1831) (by decide +kernel) rfl
theorem lk_i_X12_lacking : Cond.instanceMethod yX12_lacking ∈ gTB := gTm (i := 1833) (by decide +kernel) rfl
theorem lk_e_X12_lacking : Cond.selects RX12 yX12_lacking yX12_lacking ∈ gTB := gTp (i := 74) (q := (yX12_lacking, 65)) (by decide +kernel)
theorem lk_c_X12_lacking : Cond.code yX12_lacking cX12_lacking 4 (some .int) ∈ gTB := gTm (i := 1834) (by decide +kernel) rfl
theorem lk_vRX12_290 : ∀ w ∈ wsV RX12 290 RX12 yX12_lacking (gW yX12_lacking cX12_lacking 4 (some .int)), w ∈ gTB := gV_in lk_mRX12_290 lk_i_X12_lacking lk_e_X12_lacking lk_n_RX12 lk_c_X12_lacking
theorem lk_fRX12_83 : Cond.fieldLink RX12 83 (TX12 31).1 (TX12 31).2.1 (TX12 31).2.2.1 ∈ gTB := gTm (i := 1475) (by decide +kernel) rfl
theorem lk_fRX12_98 : Cond.fieldLink RX12 98 (TX12 36).1 (TX12 36).2.1 (TX12 36).2.2.1 ∈ gTB := gTm (i := 1480) (by decide +kernel) rfl
theorem lk_fRX12_13 : Cond.fieldLink RX12 13 (TX12 5).1 (TX12 5).2.1 (TX12 5).2.2.1 ∈ gTB := gTm (i := 1449) (by decide +kernel) rfl
theorem lk_fRX12_92 : Cond.fieldLink RX12 92 (TX12 34).1 (TX12 34).2.1 (TX12 34).2.2.1 ∈ gTB := gTm (i := 1478) (by decide +kernel) rfl
theorem lk_mRX12_347 : Cond.methodLink RX12 347 yX12_keeps ∈ gTB := gTm (i := 1913) (by decide +kernel) rfl
theorem lk_i_X12_keeps : Cond.instanceMethod yX12_keeps ∈ gTB := gTm (i := 1915) (by decide +kernel) rfl
theorem lk_e_X12_keeps : Cond.selects RX12 yX12_keeps yX12_keeps ∈ gTB := gTp (i := 88) (q := (yX12_keeps, 65)) (by decide +kernel)
theorem lk_c_X12_keeps : Cond.code yX12_keeps cX12_keeps 3 (some .int) ∈ gTB := gTm (i := 1916) (by decide +kernel) rfl
theorem lk_vRX12_347 : ∀ w ∈ wsV RX12 347 RX12 yX12_keeps (gW yX12_keeps cX12_keeps 3 (some .int)), w ∈ gTB := gV_in lk_mRX12_347 lk_i_X12_keeps lk_e_X12_keeps lk_n_RX12 lk_c_X12_keeps
theorem lk_mRX12_312 : Cond.methodLink RX12 312 yX12_picks ∈ gTB := gTm (i := 1850) (by decide +kernel) rfl
theorem lk_i_X12_picks : Cond.instanceMethod yX12_picks ∈ gTB := gTm (i := 1852) (by decide +kernel) rfl
theorem lk_e_X12_picks : Cond.selects RX12 yX12_picks yX12_picks ∈ gTB := gTp (i := 75) (q := (yX12_picks, 65)) (by decide +kernel)
theorem lk_c_X12_picks : Cond.code yX12_picks cX12_picks 4 (some .int) ∈ gTB := gTm (i := 1853) (by decide +kernel) rfl
theorem lk_vRX12_312 : ∀ w ∈ wsV RX12 312 RX12 yX12_picks (gW yX12_picks cX12_picks 4 (some .int)), w ∈ gTB := gV_in lk_mRX12_312 lk_i_X12_picks lk_e_X12_picks lk_n_RX12 lk_c_X12_picks
theorem lk_mRX12_315 : Cond.methodLink RX12 315 yX12_slotAt ∈ gTB := gTm (i := 1858) (by decide +kernel) rfl
theorem lk_s_X12_slotAt : Cond.static yX12_slotAt ∈ gTB := gTm (i := 1859) (by decide +kernel) rfl
theorem lk_c_X12_slotAt : Cond.code yX12_slotAt cX12_slotAt 1 (some .int) ∈ gTB := gTm (i := 1860) (by decide +kernel) rfl
theorem lk_sRX12_315 : ∀ w ∈ wsS RX12 315 yX12_slotAt (gW yX12_slotAt cX12_slotAt 1 (some .int)), w ∈ gTB := gS_in lk_mRX12_315 lk_s_X12_slotAt lk_n_RX12 lk_c_X12_slotAt
theorem lk_mRX12_318 : Cond.methodLink RX12 318 yX12_makesPicks ∈ gTB := gTm (i := 1861) (by decide +kernel) rfl
theorem lk_i_X12_makesPicks : Cond.instanceMethod yX12_makesPicks ∈ gTB := gTm (i := 1863) (by decide +kernel) rfl
theorem lk_e_X12_makesPicks : Cond.selects RX12 yX12_makesPicks yX12_makesPicks ∈ gTB := gTp (i := 77) (q := (yX12_makesPicks, 65)) (by decide +kernel)
theorem lk_c_X12_makesPicks : Cond.code yX12_makesPicks cX12_makesPicks 8 none ∈ gTB := gTm (i := 1864) (by decide +kernel) rfl
theorem lk_vRX12_318 : ∀ w ∈ wsV RX12 318 RX12 yX12_makesPicks (gW yX12_makesPicks cX12_makesPicks 8 none), w ∈ gTB := gV_in lk_mRX12_318 lk_i_X12_makesPicks lk_e_X12_makesPicks lk_n_RX12 lk_c_X12_makesPicks
theorem lk_fRX12_152 : Cond.fieldLink RX12 152 (TX12 56).1 (TX12 56).2.1 (TX12 56).2.2.1 ∈ gTB := gTm (i := 1500) (by decide +kernel) rfl
theorem lk_mRX12_368 : Cond.methodLink RX12 368 yX12_boxesOf ∈ gTB := gTm (i := 1965) (by decide +kernel) rfl
theorem lk_i_X12_boxesOf : Cond.instanceMethod yX12_boxesOf ∈ gTB := gTm (i := 1967) (by decide +kernel) rfl
theorem lk_e_X12_boxesOf : Cond.selects RX12 yX12_boxesOf yX12_boxesOf ∈ gTB := gTp (i := 92) (q := (yX12_boxesOf, 65)) (by decide +kernel)
theorem lk_c_X12_boxesOf : Cond.code yX12_boxesOf cX12_boxesOf 2 (some .int) ∈ gTB := gTm (i := 1968) (by decide +kernel) rfl
theorem lk_vRX12_368 : ∀ w ∈ wsV RX12 368 RX12 yX12_boxesOf (gW yX12_boxesOf cX12_boxesOf 2 (some .int)), w ∈ gTB := gV_in lk_mRX12_368 lk_i_X12_boxesOf lk_e_X12_boxesOf lk_n_RX12 lk_c_X12_boxesOf
theorem lk_mRX12_337 : Cond.methodLink RX12 337 yX12_shorts ∈ gTB := gTm (i := 1909) (by decide +kernel) rfl
theorem lk_i_X12_shorts : Cond.instanceMethod yX12_shorts ∈ gTB := gTm (i := 1911) (by decide +kernel) rfl
theorem lk_e_X12_shorts : Cond.selects RX12 yX12_shorts yX12_shorts ∈ gTB := gTp (i := 87) (q := (yX12_shorts, 65)) (by decide +kernel)
theorem lk_c_X12_shorts : Cond.code yX12_shorts cX12_shorts 10 none ∈ gTB := gTm (i := 1912) (by decide +kernel) rfl
theorem lk_vRX12_337 : ∀ w ∈ wsV RX12 337 RX12 yX12_shorts (gW yX12_shorts cX12_shorts 10 none), w ∈ gTB := gV_in lk_mRX12_337 lk_i_X12_shorts lk_e_X12_shorts lk_n_RX12 lk_c_X12_shorts
theorem lk_mRX12_334 : Cond.methodLink RX12 334 yX12_moves ∈ gTB := gTm (i := 1897) (by decide +kernel) rfl
theorem lk_i_X12_moves : Cond.instanceMethod yX12_moves ∈ gTB := gTm (i := 1899) (by decide +kernel) rfl
theorem lk_e_X12_moves : Cond.selects RX12 yX12_moves yX12_moves ∈ gTB := gTp (i := 84) (q := (yX12_moves, 65)) (by decide +kernel)
theorem lk_c_X12_moves : Cond.code yX12_moves cX12_moves 3 none ∈ gTB := gTm (i := 1900) (by decide +kernel) rfl
theorem lk_vRX12_334 : ∀ w ∈ wsV RX12 334 RX12 yX12_moves (gW yX12_moves cX12_moves 3 none), w ∈ gTB := gV_in lk_mRX12_334 lk_i_X12_moves lk_e_X12_moves lk_n_RX12 lk_c_X12_moves
theorem lk_fRX12_19 : Cond.fieldLink RX12 19 (TX12 7).1 (TX12 7).2.1 (TX12 7).2.2.1 ∈ gTB := gTm (i := 1451) (by decide +kernel) rfl
theorem lk_fRX12_22 : Cond.fieldLink RX12 22 (TX12 8).1 (TX12 8).2.1 (TX12 8).2.2.1 ∈ gTB := gTm (i := 1452) (by decide +kernel) rfl
theorem lk_mRX12_220 : Cond.methodLink RX12 220 yX12_isEmpty ∈ gTB := gTm (i := 1655) (by decide +kernel) rfl
theorem lk_i_X12_isEmpty : Cond.instanceMethod yX12_isEmpty ∈ gTB := gTm (i := 1657) (by decide +kernel) rfl
theorem lk_e_X12_isEmpty : Cond.selects RX12 yX12_isEmpty yX12_isEmpty ∈ gTB := gTp (i := 51) (q := (yX12_isEmpty, 65)) (by decide +kernel)
theorem lk_c_X12_isEmpty : Cond.code yX12_isEmpty cX12_isEmpty 4 (some .boolean) ∈ gTB := gTm (i := 1658) (by decide +kernel) rfl
theorem lk_vRX12_220 : ∀ w ∈ wsV RX12 220 RX12 yX12_isEmpty (gW yX12_isEmpty cX12_isEmpty 4 (some .boolean)), w ∈ gTB := gV_in lk_mRX12_220 lk_i_X12_isEmpty lk_e_X12_isEmpty lk_n_RX12 lk_c_X12_isEmpty
theorem lk_fRX12_7 : Cond.fieldLink RX12 7 (TX12 4).1 (TX12 4).2.1 (TX12 4).2.2.1 ∈ gTB := gTm (i := 1448) (by decide +kernel) rfl
theorem lk_mRX12_235 : Cond.methodLink RX12 235 yX12_isAsked ∈ gTB := gTm (i := 1701) (by decide +kernel) rfl
theorem lk_i_X12_isAsked : Cond.instanceMethod yX12_isAsked ∈ gTB := gTm (i := 1703) (by decide +kernel) rfl
theorem lk_e_X12_isAsked : Cond.selects RX12 yX12_isAsked yX12_isAsked ∈ gTB := gTp (i := 56) (q := (yX12_isAsked, 65)) (by decide +kernel)
theorem lk_c_X12_isAsked : Cond.code yX12_isAsked cX12_isAsked 4 (some .boolean) ∈ gTB := gTm (i := 1704) (by decide +kernel) rfl
theorem lk_vRX12_235 : ∀ w ∈ wsV RX12 235 RX12 yX12_isAsked (gW yX12_isAsked cX12_isAsked 4 (some .boolean)), w ∈ gTB := gV_in lk_mRX12_235 lk_i_X12_isAsked lk_e_X12_isAsked lk_n_RX12 lk_c_X12_isAsked
theorem lk_mRX12_238 : Cond.methodLink RX12 238 yX12_freeAt ∈ gTB := gTm (i := 1717) (by decide +kernel) rfl
theorem lk_i_X12_freeAt : Cond.instanceMethod yX12_freeAt ∈ gTB := gTm (i := 1719) (by decide +kernel) rfl
theorem lk_e_X12_freeAt : Cond.selects RX12 yX12_freeAt yX12_freeAt ∈ gTB := gTp (i := 58) (q := (yX12_freeAt, 65)) (by decide +kernel)
theorem lk_c_X12_freeAt : Cond.code yX12_freeAt cX12_freeAt 3 (some .int) ∈ gTB := gTm (i := 1720) (by decide +kernel) rfl
theorem lk_vRX12_238 : ∀ w ∈ wsV RX12 238 RX12 yX12_freeAt (gW yX12_freeAt cX12_freeAt 3 (some .int)), w ∈ gTB := gV_in lk_mRX12_238 lk_i_X12_freeAt lk_e_X12_freeAt lk_n_RX12 lk_c_X12_freeAt
theorem lk_mRX12_278 : Cond.methodLink RX12 278 yX12_nextLot ∈ gTB := gTm (i := 1800) (by decide +kernel) rfl
theorem lk_i_X12_nextLot : Cond.instanceMethod yX12_nextLot ∈ gTB := gTm (i := 1802) (by decide +kernel) rfl
theorem lk_e_X12_nextLot : Cond.selects RX12 yX12_nextLot yX12_nextLot ∈ gTB := gTp (i := 70) (q := (yX12_nextLot, 65)) (by decide +kernel)
theorem lk_c_X12_nextLot : Cond.code yX12_nextLot cX12_nextLot 7 (some .int) ∈ gTB := gTm (i := 1803) (by decide +kernel) rfl
theorem lk_vRX12_278 : ∀ w ∈ wsV RX12 278 RX12 yX12_nextLot (gW yX12_nextLot cX12_nextLot 7 (some .int)), w ∈ gTB := gV_in lk_mRX12_278 lk_i_X12_nextLot lk_e_X12_nextLot lk_n_RX12 lk_c_X12_nextLot
theorem lk_fRX12_293 : Cond.fieldLink RX12 293 (TX12 1).1 (TX12 1).2.1 (TX12 1).2.2.1 ∈ gTB := gTm (i := 1445) (by decide +kernel) rfl
theorem lk_mRX12_265 : Cond.methodLink RX12 265 yX12_isBarredIn ∈ gTB := gTm (i := 1780) (by decide +kernel) rfl
theorem lk_i_X12_isBarredIn : Cond.instanceMethod yX12_isBarredIn ∈ gTB := gTm (i := 1782) (by decide +kernel) rfl
theorem lk_e_X12_isBarredIn : Cond.selects RX12 yX12_isBarredIn yX12_isBarredIn ∈ gTB := gTp (i := 66) (q := (yX12_isBarredIn, 65)) (by decide +kernel)
theorem lk_c_X12_isBarredIn : Cond.code yX12_isBarredIn cX12_isBarredIn 5 (some .boolean) ∈ gTB := gTm (i := 1783) (by decide +kernel) rfl
theorem lk_vRX12_265 : ∀ w ∈ wsV RX12 265 RX12 yX12_isBarredIn (gW yX12_isBarredIn cX12_isBarredIn 5 (some .boolean)), w ∈ gTB := gV_in lk_mRX12_265 lk_i_X12_isBarredIn lk_e_X12_isBarredIn lk_n_RX12 lk_c_X12_isBarredIn
theorem lk_mRX12_241 : Cond.methodLink RX12 241 yX12_roomLeft ∈ gTB := gTm (i := 1729) (by decide +kernel) rfl
theorem lk_i_X12_roomLeft : Cond.instanceMethod yX12_roomLeft ∈ gTB := gTm (i := 1731) (by decide +kernel) rfl
theorem lk_e_X12_roomLeft : Cond.selects RX12 yX12_roomLeft yX12_roomLeft ∈ gTB := gTp (i := 60) (q := (yX12_roomLeft, 65)) (by decide +kernel)
theorem lk_c_X12_roomLeft : Cond.code yX12_roomLeft cX12_roomLeft 4 (some .int) ∈ gTB := gTm (i := 1732) (by decide +kernel) rfl
theorem lk_vRX12_241 : ∀ w ∈ wsV RX12 241 RX12 yX12_roomLeft (gW yX12_roomLeft cX12_roomLeft 4 (some .int)), w ∈ gTB := gV_in lk_mRX12_241 lk_i_X12_roomLeft lk_e_X12_roomLeft lk_n_RX12 lk_c_X12_roomLeft
theorem lk_mRX12_296 : Cond.methodLink RX12 296 yX12_holdsFor ∈ gTB := gTm (i := 1827) (by decide +kernel) rfl
theorem lk_i_X12_holdsFor : Cond.instanceMethod yX12_holdsFor ∈ gTB := gTm (i := 1829) (by decide +kernel) rfl
theorem lk_e_X12_holdsFor : Cond.selects RX12 yX12_holdsFor yX12_holdsFor ∈ gTB := gTp (i := 73) (q := (yX12_holdsFor, 65)) (by decide +kernel)
theorem lk_c_X12_holdsFor : Cond.code yX12_holdsFor cX12_holdsFor 12 (some .int) ∈ gTB := gTm (i := 1830) (by decide +kernel) rfl
theorem lk_vRX12_296 : ∀ w ∈ wsV RX12 296 RX12 yX12_holdsFor (gW yX12_holdsFor cX12_holdsFor 12 (some .int)), w ∈ gTB := gV_in lk_mRX12_296 lk_i_X12_holdsFor lk_e_X12_holdsFor lk_n_RX12 lk_c_X12_holdsFor
theorem lk_mRX12_331 : Cond.methodLink RX12 331 yX12_isHeldByOther ∈ gTB := gTm (i := 1917) (by decide +kernel) rfl
theorem lk_i_X12_isHeldByOther : Cond.instanceMethod yX12_isHeldByOther ∈ gTB := gTm (i := 1919) (by decide +kernel) rfl
theorem lk_e_X12_isHeldByOther : Cond.selects RX12 yX12_isHeldByOther yX12_isHeldByOther ∈ gTB := gTp (i := 89) (q := (yX12_isHeldByOther, 65)) (by decide +kernel)
theorem lk_c_X12_isHeldByOther : Cond.code yX12_isHeldByOther cX12_isHeldByOther 5 (some .boolean) ∈ gTB := gTm (i := 1920) (by decide +kernel) rfl
theorem lk_vRX12_331 : ∀ w ∈ wsV RX12 331 RX12 yX12_isHeldByOther (gW yX12_isHeldByOther cX12_isHeldByOther 5 (some .boolean)), w ∈ gTB := gV_in lk_mRX12_331 lk_i_X12_isHeldByOther lk_e_X12_isHeldByOther lk_n_RX12 lk_c_X12_isHeldByOther
theorem lk_mRX12_327 : Cond.methodLink RX12 327 yX12_does ∈ gTB := gTm (i := 1893) (by decide +kernel) rfl
theorem lk_i_X12_does : Cond.instanceMethod yX12_does ∈ gTB := gTm (i := 1895) (by decide +kernel) rfl
theorem lk_e_X12_does : Cond.selects RX12 yX12_does yX12_does ∈ gTB := gTp (i := 83) (q := (yX12_does, 65)) (by decide +kernel)
theorem lk_c_X12_does : Cond.code yX12_does cX12_does 4 none ∈ gTB := gTm (i := 1896) (by decide +kernel) rfl
theorem lk_vRX12_327 : ∀ w ∈ wsV RX12 327 RX12 yX12_does (gW yX12_does cX12_does 4 none), w ∈ gTB := gV_in lk_mRX12_327 lk_i_X12_does lk_e_X12_does lk_n_RX12 lk_c_X12_does
theorem lk_mRX12_284 : Cond.methodLink RX12 284 yX12_refills ∈ gTB := gTm (i := 1796) (by decide +kernel) rfl
theorem lk_i_X12_refills : Cond.instanceMethod yX12_refills ∈ gTB := gTm (i := 1798) (by decide +kernel) rfl
theorem lk_e_X12_refills : Cond.selects RX12 yX12_refills yX12_refills ∈ gTB := gTp (i := 69) (q := (yX12_refills, 65)) (by decide +kernel)
theorem lk_c_X12_refills : Cond.code yX12_refills cX12_refills 9 (some .boolean) ∈ gTB := gTm (i := 1799) (by decide +kernel) rfl
theorem lk_vRX12_284 : ∀ w ∈ wsV RX12 284 RX12 yX12_refills (gW yX12_refills cX12_refills 9 (some .boolean)), w ∈ gTB := gV_in lk_mRX12_284 lk_i_X12_refills lk_e_X12_refills lk_n_RX12 lk_c_X12_refills
theorem lk_mRX12_268 : Cond.methodLink RX12 268 yX12_isBarredAt ∈ gTB := gTm (i := 1776) (by decide +kernel) rfl
theorem lk_i_X12_isBarredAt : Cond.instanceMethod yX12_isBarredAt ∈ gTB := gTm (i := 1778) (by decide +kernel) rfl
theorem lk_e_X12_isBarredAt : Cond.selects RX12 yX12_isBarredAt yX12_isBarredAt ∈ gTB := gTp (i := 65) (q := (yX12_isBarredAt, 65)) (by decide +kernel)
theorem lk_c_X12_isBarredAt : Cond.code yX12_isBarredAt cX12_isBarredAt 5 (some .boolean) ∈ gTB := gTm (i := 1779) (by decide +kernel) rfl
theorem lk_vRX12_268 : ∀ w ∈ wsV RX12 268 RX12 yX12_isBarredAt (gW yX12_isBarredAt cX12_isBarredAt 5 (some .boolean)), w ∈ gTB := gV_in lk_mRX12_268 lk_i_X12_isBarredAt lk_e_X12_isBarredAt lk_n_RX12 lk_c_X12_isBarredAt
theorem lk_mRX12_299 : Cond.methodLink RX12 299 yX12_allocates ∈ gTB := gTm (i := 1823) (by decide +kernel) rfl
theorem lk_i_X12_allocates : Cond.instanceMethod yX12_allocates ∈ gTB := gTm (i := 1825) (by decide +kernel) rfl
theorem lk_e_X12_allocates : Cond.selects RX12 yX12_allocates yX12_allocates ∈ gTB := gTp (i := 72) (q := (yX12_allocates, 65)) (by decide +kernel)
theorem lk_c_X12_allocates : Cond.code yX12_allocates cX12_allocates 6 (some .int) ∈ gTB := gTm (i := 1826) (by decide +kernel) rfl
theorem lk_vRX12_299 : ∀ w ∈ wsV RX12 299 RX12 yX12_allocates (gW yX12_allocates cX12_allocates 6 (some .int)), w ∈ gTB := gV_in lk_mRX12_299 lk_i_X12_allocates lk_e_X12_allocates lk_n_RX12 lk_c_X12_allocates
theorem lk_mRX12_271 : Cond.methodLink RX12 271 yX12_slotFor ∈ gTB := gTm (i := 1772) (by decide +kernel) rfl
theorem lk_i_X12_slotFor : Cond.instanceMethod yX12_slotFor ∈ gTB := gTm (i := 1774) (by decide +kernel) rfl
theorem lk_e_X12_slotFor : Cond.selects RX12 yX12_slotFor yX12_slotFor ∈ gTB := gTp (i := 64) (q := (yX12_slotFor, 65)) (by decide +kernel)
theorem lk_c_X12_slotFor : Cond.code yX12_slotFor cX12_slotFor 11 (some .int) ∈ gTB := gTm (i := 1775) (by decide +kernel) rfl
theorem lk_vRX12_271 : ∀ w ∈ wsV RX12 271 RX12 yX12_slotFor (gW yX12_slotFor cX12_slotFor 11 (some .int)), w ∈ gTB := gV_in lk_mRX12_271 lk_i_X12_slotFor lk_e_X12_slotFor lk_n_RX12 lk_c_X12_slotFor
theorem lk_mRX12_324 : Cond.methodLink RX12 324 yX12_goesTo ∈ gTB := gTm (i := 1889) (by decide +kernel) rfl
theorem lk_i_X12_goesTo : Cond.instanceMethod yX12_goesTo ∈ gTB := gTm (i := 1891) (by decide +kernel) rfl
theorem lk_e_X12_goesTo : Cond.selects RX12 yX12_goesTo yX12_goesTo ∈ gTB := gTp (i := 82) (q := (yX12_goesTo, 65)) (by decide +kernel)
theorem lk_c_X12_goesTo : Cond.code yX12_goesTo cX12_goesTo 6 none ∈ gTB := gTm (i := 1892) (by decide +kernel) rfl
theorem lk_vRX12_324 : ∀ w ∈ wsV RX12 324 RX12 yX12_goesTo (gW yX12_goesTo cX12_goesTo 6 none), w ∈ gTB := gV_in lk_mRX12_324 lk_i_X12_goesTo lk_e_X12_goesTo lk_n_RX12 lk_c_X12_goesTo
theorem lk_mRX12_356 : Cond.methodLink RX12 356 yX12_isInRing ∈ gTB := gTm (i := 1921) (by decide +kernel) rfl
theorem lk_i_X12_isInRing : Cond.instanceMethod yX12_isInRing ∈ gTB := gTm (i := 1923) (by decide +kernel) rfl
theorem lk_e_X12_isInRing : Cond.selects RX12 yX12_isInRing yX12_isInRing ∈ gTB := gTp (i := 90) (q := (yX12_isInRing, 65)) (by decide +kernel)
theorem lk_c_X12_isInRing : Cond.code yX12_isInRing cX12_isInRing 4 (some .boolean) ∈ gTB := gTm (i := 1924) (by decide +kernel) rfl
theorem lk_vRX12_356 : ∀ w ∈ wsV RX12 356 RX12 yX12_isInRing (gW yX12_isInRing cX12_isInRing 4 (some .boolean)), w ∈ gTB := gV_in lk_mRX12_356 lk_i_X12_isInRing lk_e_X12_isInRing lk_n_RX12 lk_c_X12_isInRing
theorem lk_mRX12_353 : Cond.methodLink RX12 353 yX12_turns ∈ gTB := gTm (i := 1885) (by decide +kernel) rfl
theorem lk_i_X12_turns : Cond.instanceMethod yX12_turns ∈ gTB := gTm (i := 1887) (by decide +kernel) rfl
theorem lk_e_X12_turns : Cond.selects RX12 yX12_turns yX12_turns ∈ gTB := gTp (i := 81) (q := (yX12_turns, 65)) (by decide +kernel)
theorem lk_c_X12_turns : Cond.code yX12_turns cX12_turns 4 none ∈ gTB := gTm (i := 1888) (by decide +kernel) rfl
theorem lk_vRX12_353 : ∀ w ∈ wsV RX12 353 RX12 yX12_turns (gW yX12_turns cX12_turns 4 none), w ∈ gTB := gV_in lk_mRX12_353 lk_i_X12_turns lk_e_X12_turns lk_n_RX12 lk_c_X12_turns
theorem lk_mRX12_362 : Cond.methodLink RX12 362 yX12_ticks ∈ gTB := gTm (i := 1881) (by decide +kernel) rfl
theorem lk_i_X12_ticks : Cond.instanceMethod yX12_ticks ∈ gTB := gTm (i := 1883) (by decide +kernel) rfl
theorem lk_e_X12_ticks : Cond.selects RX12 yX12_ticks yX12_ticks ∈ gTB := gTp (i := 80) (q := (yX12_ticks, 65)) (by decide +kernel)
theorem lk_c_X12_ticks : Cond.code yX12_ticks cX12_ticks 3 none ∈ gTB := gTm (i := 1884) (by decide +kernel) rfl
theorem lk_vRX12_362 : ∀ w ∈ wsV RX12 362 RX12 yX12_ticks (gW yX12_ticks cX12_ticks 3 none), w ∈ gTB := gV_in lk_mRX12_362 lk_i_X12_ticks lk_e_X12_ticks lk_n_RX12 lk_c_X12_ticks
