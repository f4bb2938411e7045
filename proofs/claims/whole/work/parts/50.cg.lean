/-! what each group of the relation reads -/
section
variable {B k : Nat} {S T : Ss} {w v : MS}
theorem cg_sl (a0 : zA T 900 = zA S 900) (a1 : zA T 901 = zA S 901) (a2 : zA T 903 = zA S 903) (a3 : zA T 904 = zA S 904) (a4 : zO T 902 = zO S 902) (a5 : mA v 4 = mA w 4) (a6 : mA v 5 = mA w 5) (a7 : mA v 6 = mA w 6) (a8 : mA v 7 = mA w 7) (a9 : mA v 8 = mA w 8) (h : g_sl S w) : g_sl T v := by
  simp only [g_sl, pkd, hL, itS, lqS, onT, lotT, rowS, mvS, a0, a1, a2, a3, a4, a5, a6, a7, a8, a9] at h ⊢; exact h
theorem cg_it (a0 : zA T 300 = zA S 300) (a1 : zA T 301 = zA S 301) (a2 : zA T 302 = zA S 302) (a3 : zA T 303 = zA S 303) (a4 : zA T 304 = zA S 304) (a5 : zA T 305 = zA S 305) (a6 : mA v 9 = mA w 9) (a7 : mA v 10 = mA w 10) (a8 : mA v 11 = mA w 11) (a9 : mA v 12 = mA w 12) (a10 : mA v 13 = mA w 13) (h : g_it S w) : g_it T v := by
  simp only [g_it, pkd, hL, itS, lqS, onT, lotT, rowS, mvS, a0, a1, a2, a3, a4, a5, a6, a7, a8, a9, a10] at h ⊢; exact h
theorem cg_ba (a0 : zA T 1115 = zA S 1115) (a1 : mA v 14 = mA w 14) (h : g_ba S w) : g_ba T v := by
  simp only [g_ba, pkd, hL, itS, lqS, onT, lotT, rowS, mvS, a0, a1] at h ⊢; exact h
theorem cg_sc (a0 : zA T 1116 = zA S 1116) (a1 : zA T 1118 = zA S 1118) (a2 : zA T 1117 = zA S 1117) (a3 : mI v 1 = mI w 1) (a4 : mI v 2 = mI w 2) (a5 : mI v 3 = mI w 3) (h : g_sc S w) : g_sc T v := by
  simp only [g_sc, pkd, hL, itS, lqS, onT, lotT, rowS, mvS, a0, a1, a2, a3, a4, a5] at h ⊢; exact h
theorem cg_lo (a0 : zN T 5 = zN S 5) (a1 : zL T 1103 = zL S 1103) (a2 : zA T 500 = zA S 500) (a3 : zA T 502 = zA S 502) (a4 : zA T 503 = zA S 503) (a5 : zO T 501 = zO S 501) (a6 : mI v 15 = mI w 15) (a7 : mA v 16 = mA w 16) (a8 : mA v 17 = mA w 17) (a9 : mA v 18 = mA w 18) (h : g_lo S w) : g_lo T v := by
  simp only [g_lo, pkd, hL, itS, lqS, onT, lotT, rowS, mvS, a0, a1, a2, a3, a4, a5, a6, a7, a8, a9] at h ⊢; exact h
theorem cg_be (a0 : zL T 1104 = zL S 1104) (a1 : zN T 5 = zN S 5) (a2 : zA T 502 = zA S 502) (h : g_be S w) : g_be T v := by
  simp only [g_be, pkd, hL, itS, lqS, onT, lotT, rowS, mvS, a0, a1, a2] at h ⊢; exact h
theorem cg_no (a0 : zN T 6 = zN S 6) (a1 : zL T 1105 = zL S 1105) (a2 : zO T 600 = zO S 600) (a3 : zA T 601 = zA S 601) (a4 : zA T 602 = zA S 602) (a5 : mI v 22 = mI w 22) (a6 : mA v 23 = mA w 23) (a7 : mA v 24 = mA w 24) (a8 : mA v 25 = mA w 25) (h : g_no S w) : g_no T v := by
  simp only [g_no, pkd, hL, itS, lqS, onT, lotT, rowS, mvS, a0, a1, a2, a3, a4, a5, a6, a7, a8] at h ⊢; exact h
theorem cg_ca (a0 : zC T 1110 = zC S 1110) (a1 : mA v 26 = mA w 26) (h : g_ca S w) : g_ca T v := by
  simp only [g_ca, pkd, hL, itS, lqS, onT, lotT, rowS, mvS, a0, a1] at h ⊢; exact h
theorem cg_aw (a0 : zC T 1111 = zC S 1111) (a1 : zN T 7 = zN S 7) (a2 : zA T 705 = zA S 705) (a3 : mA v 33 = mA w 33) (h : g_aw S w) : g_aw T v := by
  simp only [g_aw, pkd, hL, itS, lqS, onT, lotT, rowS, mvS, a0, a1, a2, a3] at h ⊢; exact h
theorem cg_or (a0 : zN T 7 = zN S 7) (a1 : zN T 72 = zN S 72) (a2 : zL T 1106 = zL S 1106) (a3 : zA T 700 = zA S 700) (a4 : zA T 701 = zA S 701) (a5 : zA T 702 = zA S 702) (a6 : zA T 703 = zA S 703) (a7 : zA T 705 = zA S 705) (a8 : mI v 27 = mI w 27) (a9 : mA v 28 = mA w 28) (a10 : mA v 29 = mA w 29) (a11 : mA v 30 = mA w 30) (a12 : mA v 31 = mA w 31) (a13 : mA v 32 = mA w 32) (h : g_or S w) : g_or T v := by
  simp only [g_or, pkd, hL, itS, lqS, onT, lotT, rowS, mvS, a0, a1, a2, a3, a4, a5, a6, a7, a8, a9, a10, a11, a12, a13] at h ⊢; exact h
theorem cg_li (a0 : zN T 7 = zN S 7) (a1 : zL T 704 = zL S 704) (a2 : zN T 4 = zN S 4) (a3 : zO T 400 = zO S 400) (a4 : zA T 401 = zA S 401) (a5 : zA T 402 = zA S 402) (a6 : zA T 403 = zA S 403) (a7 : mA v 31 = mA w 31) (a8 : mA v 36 = mA w 36) (a9 : mA v 37 = mA w 37) (a10 : mA v 38 = mA w 38) (h : g_li S w) : g_li T v := by
  simp only [g_li, pkd, hL, itS, lqS, onT, lotT, rowS, mvS, a0, a1, a2, a3, a4, a5, a6, a7, a8, a9, a10] at h ⊢; exact h
theorem cg_bk (a0 : zC T 0 = zC S 0) (a1 : zC T 1 = zC S 1) (a2 : zN T 5 = zN S 5) (a3 : zO T 501 = zO S 501) (a4 : mA v 19 = mA w 19) (h : g_bk S w) : g_bk T v := by
  simp only [g_bk, pkd, hL, itS, lqS, onT, lotT, rowS, mvS, a0, a1, a2, a3, a4] at h ⊢; exact h
theorem cg_nn (a0 : zC T 0 = zC S 0) (a1 : zC T 2 = zC S 2) (h : g_nn B S) : g_nn B T := by
  simp only [g_nn, pkd, hL, itS, lqS, onT, lotT, rowS, mvS, a0, a1] at h ⊢; exact h
theorem cg_tr (a0 : zC T 2 = zC S 2) (a1 : zC T 0 = zC S 0) (a2 : mA v 20 = mA w 20) (h : g_tr S w) : g_tr T v := by
  simp only [g_tr, pkd, hL, itS, lqS, onT, lotT, rowS, mvS, a0, a1, a2] at h ⊢; exact h
theorem cg_db (a0 : zC T 5 = zC S 5) (a1 : mA v 21 = mA w 21) (h : g_db S w) : g_db T v := by
  simp only [g_db, pkd, hL, itS, lqS, onT, lotT, rowS, mvS, a0, a1] at h ⊢; exact h
theorem cg_mv (a0 : zA T 7 = zA S 7) (a1 : zN T 60 = zN S 60) (a2 : zM T = zM S) (a3 : zC T 0 = zC S 0) (h : g_mv S k) : g_mv T k := by
  simp only [g_mv, pkd, hL, itS, lqS, onT, lotT, rowS, mvS, a0, a1, a2, a3] at h ⊢; exact h
theorem cg_ho (a0 : zL T 1107 = zL S 1107) (a1 : zN T 2 = zN S 2) (a2 : zA T 204 = zA S 204) (a3 : zN T 5 = zN S 5) (a4 : zO T 203 = zO S 203) (a5 : zA T 202 = zA S 202) (a6 : zO T 200 = zO S 200) (a7 : zO T 201 = zO S 201) (a8 : zO T 205 = zO S 205) (a9 : zN T 7 = zN S 7) (a10 : zL T 704 = zL S 704) (a11 : zA T 705 = zA S 705) (a12 : zN T 10 = zN S 10) (a13 : zO T 1002 = zO S 1002) (a14 : zA T 1005 = zA S 1005) (a15 : zA T 1004 = zA S 1004) (h : g_ho S w) : g_ho T v := by
  simp only [g_ho, pkd, hL, itS, lqS, onT, lotT, rowS, mvS, hasO, a0, a1, a2, a3, a4, a5, a6, a7, a8, a9, a10, a11, a12, a13, a14, a15] at h ⊢; exact h
theorem co_ho (a0 : zL T 1107 = zL S 1107) (a1 : zN T 2 = zN S 2) (a2 : zA T 204 = zA S 204) (a3 : zN T 5 = zN S 5) (a4 : zO T 203 = zO S 203) (a5 : zA T 202 = zA S 202) (a6 : zO T 200 = zO S 200) (a7 : zO T 201 = zO S 201) (a8 : zO T 205 = zO S 205) (a9 : zN T 7 = zN S 7) (a10 : zL T 704 = zL S 704) (a11 : zA T 705 = zA S 705) (a12 : zN T 10 = zN S 10) (a13 : zO T 1002 = zO S 1002) (a14 : ∀ t, (zA T 1005 t = 0 ∨ zA T 1005 t = 1) = (zA S 1005 t = 0 ∨ zA S 1005 t = 1)) (a15 : zA T 1004 = zA S 1004) (h : g_ho S w) : g_ho T v := by
  simp only [g_ho, pkd, hL, itS, lqS, onT, lotT, rowS, mvS, hasO, a0, a1, a2, a3, a4, a5, a6, a7, a8, a9, a10, a11, a12, a13, a14, a15] at h ⊢; exact h
theorem cg_hs (a0 : zC T 3 = zC S 3) (a1 : zL T 1107 = zL S 1107) (a2 : zA T 202 = zA S 202) (a3 : zO T 203 = zO S 203) (a4 : zA T 204 = zA S 204) (a5 : zC T 0 = zC S 0) (a6 : zN T 4 = zN S 4) (a7 : zA T 402 = zA S 402) (a8 : zO T 201 = zO S 201) (h : g_hs S w) : g_hs T v := by
  have eP : ∀ p l, hpc T p l = hpc S p l := fun p l => by funext x; simp only [hpc, a0, a1, a2, a3, a4, a5, a6, a7, a8]
  simp only [g_hs, pkd, hL, itS, lqS, onT, lotT, rowS, mvS, a0, a1, a2, a3, a4, a5, a6, a7, a8, eP] at h ⊢; exact h
theorem cg_hm (a0 : mI v 39 = mI w 39) (a1 : zL T 1107 = zL S 1107) (a2 : zO T 200 = zO S 200) (a3 : zO T 201 = zO S 201) (a4 : zO T 203 = zO S 203) (a5 : zL T 704 = zL S 704) (a6 : zA T 202 = zA S 202) (a7 : zA T 204 = zA S 204) (a8 : zO T 205 = zO S 205) (a9 : mA v 40 = mA w 40) (a10 : mA v 41 = mA w 41) (a11 : mA v 42 = mA w 42) (a12 : mA v 43 = mA w 43) (a13 : mA v 44 = mA w 44) (h : g_hm S w) : g_hm T v := by
  have eO : hasO T = hasO S := by funext x; simp only [hasO, a0, a1, a2, a3, a4, a5, a6, a7, a8, a9, a10, a11, a12, a13]
  simp only [g_hm, pkd, hL, itS, lqS, onT, lotT, rowS, mvS, a0, a1, a2, a3, a4, a5, a6, a7, a8, a9, a10, a11, a12, a13, eO] at h ⊢; exact h
theorem cg_ta (a0 : zN T 10 = zN S 10) (a1 : zL T 1108 = zL S 1108) (a2 : mI v 45 = mI w 45) (a3 : zA T 1000 = zA S 1000) (a4 : zA T 1001 = zA S 1001) (a5 : zA T 1003 = zA S 1003) (a6 : zA T 1004 = zA S 1004) (a7 : zA T 1005 = zA S 1005) (a8 : zA T 1006 = zA S 1006) (a9 : zO T 1002 = zO S 1002) (a10 : zN T 2 = zN S 2) (a11 : zO T 203 = zO S 203) (a12 : zN T 5 = zN S 5) (a13 : zL T 1107 = zL S 1107) (a14 : zO T 205 = zO S 205) (a15 : zO T 200 = zO S 200) (a16 : zO T 201 = zO S 201) (a17 : zA T 202 = zA S 202) (a18 : zN T 7 = zN S 7) (a19 : zL T 704 = zL S 704) (a20 : mA v 46 = mA w 46) (a21 : mA v 47 = mA w 47) (a22 : mA v 48 = mA w 48) (a23 : mA v 49 = mA w 49) (a24 : mA v 50 = mA w 50) (a25 : mA v 51 = mA w 51) (a26 : mA v 52 = mA w 52) (a27 : mA v 54 = mA w 54) (h : g_ta S w) : g_ta T v := by
  simp only [g_ta, pkd, hL, itS, lqS, onT, lotT, rowS, mvS, a0, a1, a2, a3, a4, a5, a6, a7, a8, a9, a10, a11, a12, a13, a14, a15, a16, a17, a18, a19, a20, a21, a22, a23, a24, a25, a26, a27] at h ⊢; exact h
theorem cg_ap (a0 : zC T 4 = zC S 4) (a1 : zN T 10 = zN S 10) (a2 : zA T 1005 = zA S 1005) (a3 : zA T 1001 = zA S 1001) (a4 : zA T 1003 = zA S 1003) (a5 : zA T 1004 = zA S 1004) (a6 : zO T 501 = zO S 501) (a7 : zO T 203 = zO S 203) (a8 : zO T 1002 = zO S 1002) (a9 : zO T 902 = zO S 902) (h : g_ap S w) : g_ap T v := by
  have eT : ∀ x, lotT T x = lotT S x := fun x => by unfold lotT; rw [a7, a8]
  have eI : ∀ x, itS T x = itS S x := fun x => by unfold itS; rw [a6]
  have eP : ∀ s i, apc T s i = apc S s i := fun s i => by
    funext x
    unfold apc
    rw [eT, eI, a3, a4, a5]
    by_cases q : (zA S 1005 x = 0 ∨ zA S 1005 x = 1) ∧ ¬ zA S 1001 x = 2 ∧ zA S 1003 x = nI s ∧ itS S (lotT S x) = i
    · rw [if_pos q, if_pos (by rw [a2]; exact q)]
    · rw [if_neg q, if_neg (by rw [a2]; exact q)]
  simp only [g_ap, pkd, hL, itS, lqS, onT, lotT, rowS, mvS, a0, a1, a2, a3, a4, a5, a6, a7, a8, a9, eP] at h ⊢; exact h
theorem co_ap (a0 : zC T 4 = zC S 4) (a1 : zN T 10 = zN S 10) (a2 : ∀ t, (zA T 1005 t = 0 ∨ zA T 1005 t = 1) = (zA S 1005 t = 0 ∨ zA S 1005 t = 1)) (a3 : zA T 1001 = zA S 1001) (a4 : zA T 1003 = zA S 1003) (a5 : zA T 1004 = zA S 1004) (a6 : zO T 501 = zO S 501) (a7 : zO T 203 = zO S 203) (a8 : zO T 1002 = zO S 1002) (a9 : zO T 902 = zO S 902) (h : g_ap S w) : g_ap T v := by
  have eT : ∀ x, lotT T x = lotT S x := fun x => by unfold lotT; rw [a7, a8]
  have eI : ∀ x, itS T x = itS S x := fun x => by unfold itS; rw [a6]
  have eP : ∀ s i, apc T s i = apc S s i := fun s i => by
    funext x
    unfold apc
    rw [eT, eI, a3, a4, a5]
    by_cases q : (zA S 1005 x = 0 ∨ zA S 1005 x = 1) ∧ ¬ zA S 1001 x = 2 ∧ zA S 1003 x = nI s ∧ itS S (lotT S x) = i
    · rw [if_pos q, if_pos (by rw [a2]; exact q)]
    · rw [if_neg q, if_neg (by rw [a2]; exact q)]
  simp only [g_ap, pkd, hL, itS, lqS, onT, lotT, rowS, mvS, a0, a1, a2, a3, a4, a5, a6, a7, a8, a9, eP] at h ⊢; exact h
theorem cg_ro (a0 : zA T 801 = zA S 801) (a1 : zA T 802 = zA S 802) (a2 : zL T 800 = zL S 800) (a3 : zA T 1005 = zA S 1005) (a4 : zN T 10 = zN S 10) (a5 : mA v 53 = mA w 53) (a6 : mA v 55 = mA w 55) (a7 : mA v 56 = mA w 56) (a8 : mA v 58 = mA w 58) (a9 : mA v 59 = mA w 59) (h : g_ro S w) : g_ro T v := by
  simp only [g_ro, pkd, hL, itS, lqS, onT, lotT, rowS, mvS, a0, a1, a2, a3, a4, a5, a6, a7, a8, a9] at h ⊢; exact h
theorem cg_st (a0 : zN T 7 = zN S 7) (a1 : zA T 705 = zA S 705) (a2 : zN T 5 = zN S 5) (a3 : zC T 0 = zC S 0) (a4 : zL T 704 = zL S 704) (a5 : zA T 403 = zA S 403) (h : g_st S w) : g_st T v := by
  simp only [g_st, pkd, hL, itS, lqS, onT, lotT, rowS, mvS, a0, a1, a2, a3, a4, a5] at h ⊢; exact h
theorem cg_bx (a0 : zN T 7 = zN S 7) (a1 : zA T 705 = zA S 705) (a2 : zA T 706 = zA S 706) (a3 : zC T 1112 = zC S 1112) (a4 : zA T 302 = zA S 302) (a5 : zA T 303 = zA S 303) (a6 : zA T 304 = zA S 304) (a7 : zO T 501 = zO S 501) (a8 : zN T 5 = zN S 5) (a9 : mA v 34 = mA w 34) (a10 : mA v 35 = mA w 35) (h : g_bx S w) : g_bx T v := by
  simp only [g_bx, pkd, hL, itS, lqS, onT, lotT, rowS, mvS, a0, a1, a2, a3, a4, a5, a6, a7, a8, a9, a10] at h ⊢; exact h
end
