/-! a holding of an order is made -/
section
variable {B k : Nat} {S T : Ss} {w v : MS}
def hdV (w : MS) (H : Nat) (q p l n : Int32) : MS := mSI 39 (nI (H + 1)) (mSA 44 H (-1) (mSA 43 H n (mSA 42 H l (mSA 41 H p (mSA 40 H q w)))))
theorem hdV_I {H f : Nat} {q p l n : Int32} : mI (hdV w H q p l n) f = if f = 39 then nI (H + 1) else mI w f := by
  unfold hdV; rw [mI_mSI]; rfl
theorem hdV_A {H f : Nat} {q p l n : Int32} (hf : f < 40 ∨ 44 < f) : mA (hdV w H q p l n) f = mA w f := by
  unfold hdV
  rw [tBI, fBA (by omega), fBA (by omega), fBA (by omega), fBA (by omega), fBA (by omega)]
theorem hdV_x {H f x : Nat} {q p l n : Int32} (hx : x ≠ H) : mA (hdV w H q p l n) f x = mA w f x := by
  unfold hdV
  simp only [mA_mSI, mA_mSA]
  rw [if_neg (fun r => hx r.2), if_neg (fun r => hx r.2), if_neg (fun r => hx r.2), if_neg (fun r => hx r.2), if_neg (fun r => hx r.2)]
theorem hdV_n {H : Nat} {q p l n : Int32} : mA (hdV w H q p l n) 40 H = q ∧ mA (hdV w H q p l n) 41 H = p ∧ mA (hdV w H q p l n) 42 H = l ∧ mA (hdV w H q p l n) 43 H = n ∧ mA (hdV w H q p l n) 44 H = -1 := by
  refine ⟨?_, ?_, ?_, ?_, ?_⟩
  all_goals (unfold hdV; simp only [kif, r_gb, gbn_s, r_grd, r_gbo, r_gret, r_gst, k_isIn, k_isSlot, k_isItem, k_isGroup, k_isRobot, k_are, k_holds0, k_holds1, k_holds2, k_holds3, k_bit, k_less, bI_t, bI_f, i10, i00, i01, i11, i20, i30, ↓reduceIte, mI_mSA, mI_mSI, mA_mSI, mA_mSA, Nat.reduceEqDiff, reduceCtorEq, Nat.reduceEqDiff, false_and, true_and, and_true])
theorem Rel.hd (h : Rel B k S w) {o j s l : Nat} {n : Int32} (o7 : o < zN S 7) (jm : j ∈ zL S 704 o) (h705 : zA S 705 o = 0) (hs : s < 18) (hl : l < zN S 5) (hn : tI n 1 99) (hf : n.toInt + (zC S 3 (12 * s + l)).toInt ≤ (zC S 0 (12 * s + l)).toInt) (hlk : (zA S 402 j).toInt + (zA S 403 j).toInt + n.toInt ≤ (zA S 401 j).toInt) (hD : HD S T (some o) (some j) s l n) : Rel B k T (hdV w ((hL S).filter (hasO S)).length (nI (lqS S o j)) (nI s) (nI l) n) := by
  obtain ⟨d1, d2, d3, d4, d5, d6, d7, d8, d9, d10, d11, d12, d13, -, d15, d16, d17, d18, d19, -⟩ := hD
  obtain ⟨V, hV⟩ : ∃ V, V = hdV w ((hL S).filter (hasO S)).length (nI (lqS S o j)) (nI s) (nI l) n := ⟨_, rfl⟩
  obtain ⟨H, hH⟩ : ∃ H, H = ((hL S).filter (hasO S)).length := ⟨_, rfl⟩
  rw [← hH] at hV ⊢
  have hA : ∀ f, f / 100 ≠ 2 ∧ f ≠ 402 → zA T f = zA S f := fun f hf => d1 f hf.1 hf.2
  have hO : ∀ f, f / 100 ≠ 2 → zO T f = zO S f := d6
  have hL1 : ∀ f, f ≠ 1107 → zL T f = zL S f := d12
  have hC : ∀ f, f ≠ 3 → zC T f = zC S f := d15
  have hNf : ∀ f, f ≠ 2 ∧ f ≠ 61 ∧ f ≠ 62 → zN T f = zN S f := d18
  have hM : zM T = zM S := d17
  have hI : ∀ f, f ≠ 39 → mI V f = mI w f := fun f hf => by rw [hV, hdV_I, if_neg hf]
  have hB : ∀ f, f < 40 ∨ 44 < f → mA V f = mA w f := fun f hf => by rw [hV, hdV_A hf]
  have vx : ∀ f q, q ≠ H → mA V f q = mA w f q := fun f q hq => by rw [hV, hdV_x hq]
  obtain ⟨v40, v41, v42, v43, v44⟩ : mA V 40 H = nI (lqS S o j) ∧ mA V 41 H = nI s ∧ mA V 42 H = nI l ∧ mA V 43 H = n ∧ mA V 44 H = -1 := by rw [hV]; exact hdV_n
  obtain ⟨ho1, ho2, ho3⟩ := h.ho
  obtain ⟨hs1, hs2⟩ := h.hs
  obtain ⟨hm1, hm2⟩ := h.hm
  obtain ⟨ta1, ta2, ta3, ta4⟩ := h.ta
  obtain ⟨ap1, ap2⟩ := h.ap
  have h12 := h.lo.1
  have tn := tI_of hn
  have eH : zL T 1107 0 = zL S 1107 0 ++ [zN S 2] := d13
  have ltH : ∀ x, x ∈ zL S 1107 0 → x < zN S 2 ∧ x ≠ zN S 2 := fun x hx => by
    have := (ho2 x hx).1
    exact ⟨this, by omega⟩
  have aH : ∀ f x, f ≠ 402 → x ∈ zL S 1107 0 → zA T f x = zA S f x := fun f x hf hx => d2 f x (ltH x hx).2 hf
  have oH : ∀ f x, x ∈ zL S 1107 0 → zO T f x = zO S f x := fun f x hx => d7 f x (ltH x hx).2
  have e501 : ∀ l, itS T l = itS S l := fun l => by unfold itS; rw [hO 501 (by decide)]
  have n5 : zN T 5 = zN S 5 := hNf 5 (by decide)
  have n7 : zN T 7 = zN S 7 := hNf 7 (by decide)
  have n4 : zN T 4 = zN S 4 := hNf 4 (by decide)
  have n10 : zN T 10 = zN S 10 := hNf 10 (by decide)
  have e705 : zA T 705 = zA S 705 := hA 705 (by decide)
  have e704 : zL T 704 = zL S 704 := hL1 704 (by decide)
  have elq : ∀ o j, lqS T o j = lqS S o j := fun o j => by unfold lqS; rw [e704]
  have jN := h.lnM o7 jm
  have fno : (zL T 1107 0).filter (fun x => !hasO T x) = (zL S 1107 0).filter (fun x => !hasO S x) := by
    rw [eH, List.filter_append]
    have : [zN S 2].filter (fun x => !hasO T x) = [] := by unfold hasO; simp [d8]
    rw [this, List.append_nil]
    exact List.filter_congr fun x hx => by unfold hasO; rw [oH 200 x hx]
  have fyes : (zL T 1107 0).filter (hasO T) = (zL S 1107 0).filter (hasO S) ++ [zN S 2] := by
    rw [eH, List.filter_append]
    congr 1
    · exact List.filter_congr fun x hx => by unfold hasO; rw [oH 200 x hx]
    · unfold hasO; simp [d8]
  have ho_ : g_ho T V := by
    refine ⟨?_, fun x hx => ?_, ?_⟩
    · show (zL T 1107 0).Nodup
      rw [eH, List.nodup_append]
      refine ⟨ho1, by simp, fun a ha b hb => ?_⟩
      rw [List.mem_singleton] at hb
      subst hb
      exact (ltH a ha).2
    · have hx : x ∈ zL T 1107 0 := hx
      rw [eH, List.mem_append, List.mem_singleton] at hx
      rw [d19, n5, n7, e704, e705, n10]
      rcases hx with hx | hx
      · obtain ⟨a1, a2, a3, a4, a5, a6⟩ := ho2 x hx
        rw [aH 204 x (by decide) hx, aH 202 x (by decide) hx, oH 203 x hx, oH 200 x hx, oH 201 x hx, oH 205 x hx]
        refine ⟨by omega, a2, a3, a4, a5, fun t ht => ?_⟩
        obtain ⟨g1, g2, g3, g4⟩ := a6 t ht
        rw [hO 1002 (by decide), hA 1005 (by decide), hA 1004 (by decide)]
        exact ⟨g1, g2, g3, g4⟩
      · subst hx
        rw [d3, d4, d8, d9, d10, d11]
        exact ⟨by omega, hn, ⟨l, hl, rfl⟩, ⟨s, by omega, rfl⟩, Or.inr ⟨o, j, s, rfl, rfl, o7, jm, h705, hs, rfl⟩, fun t ht => by cases ht⟩
    · rw [hL_eq, fno]
      have ho3' := ho3
      rw [hL_eq] at ho3'
      refine List.Pairwise.imp_of_mem (fun {a b} ha hb q => ?_) ho3'
      rw [oH 205 a (List.mem_filter.mp ha).1, oH 205 b (List.mem_filter.mp hb).1]
      exact q
  have ePc : ∀ p' l' x, x ∈ zL S 1107 0 → hpc T p' l' x = hpc S p' l' x := fun p' l' x hx => by
    unfold hpc
    rw [aH 204 x (by decide) hx, aH 202 x (by decide) hx, oH 203 x hx]
  have ePn : ∀ p' l', p' < 19 → l' < 12 → hpc T p' l' (zN S 2) = if p' = s ∧ l' = l then n else 0 := fun p' l' h1 h2 => by
    unfold hpc
    rw [d3, d4, d10]
    by_cases q : p' = s ∧ l' = l
    · rw [if_pos q, if_pos ⟨by rw [q.1], by rw [q.2]⟩]
    · rw [if_neg q, if_neg]
      intro r
      exact q ⟨((nI_eq (b := p') (by omega) (by omega)).mp r.1).symm, (Option.some.inj r.2).symm⟩
  have hs_ : g_hs T V := by
    refine ⟨fun p' l' hp' hl' => ?_, fun j' hj' => ?_⟩
    · obtain ⟨g1, g2⟩ := hs1 p' l' hp' hl'
      rw [hL_eq] at g1 g2
      have z1 : sm (zL T 1107 0) (hpc T p' l') = sm (zL S 1107 0) (hpc S p' l') + (if p' = s ∧ l' = l then n else 0) := by
        rw [eH, sm_app, ePn p' l' hp' hl', sm_cg _ fun x hx => ePc p' l' x hx]
      have z2 : sz (zL T 1107 0) (fun x => (hpc T p' l' x).toInt) = sz (zL S 1107 0) (fun x => (hpc S p' l' x).toInt) + (if p' = s ∧ l' = l then n else 0).toInt := by
        rw [eH, sz_app, ePn p' l' hp' hl', sz_cg _ fun x hx => by rw [ePc p' l' x hx]]
      rw [hL_eq, z1, z2, hC 0 (by decide), d16, ← g1]
      by_cases q : p' = s ∧ l' = l
      · obtain ⟨q1, q2⟩ := q
        subst q1; subst q2
        rw [if_pos rfl, if_pos ⟨rfl, rfl⟩]
        refine ⟨rfl, ?_⟩
        have z3 : (zC S 3 (12 * p' + l')).toInt = sz (zL S 1107 0) (fun x => (hpc S p' l' x).toInt) := by
          rw [g1]
          have h0 : ∀ x, x ∈ zL S 1107 0 → 0 ≤ (hpc S p' l' x).toInt := fun x hx => by
            have := tI_of (ho2 x hx).2.1
            unfold hpc; split
            · omega
            · exact Int.le_refl _
          have hb := tI_of (h.nn.2.1 (12 * p' + l') (by omega))
          have hB8 := h.nn.1
          exact sm_toInt _ h0 (by omega)
        omega
      · rw [if_neg q, if_neg (by omega), Int32.add_zero]
        have e0 : (0 : Int32).toInt = 0 := rfl
        rw [e0, Int.add_zero]
        exact ⟨rfl, g2⟩
    · rw [n4] at hj'
      obtain ⟨g1, g2⟩ := hs2 j' hj'
      rw [hL_eq] at g1 g2
      have b4 := h.li.1 o o7
      rw [hL_eq, d5, eH, sm_app, sz_app, d9, d4]
      have y1 : sm (zL S 1107 0) (fun x => if zO T 201 x = some j' then zA T 204 x else 0) = zA S 402 j' := by
        rw [g1]
        exact sm_cg _ fun x hx => by rw [aH 204 x (by decide) hx, oH 201 x hx]
      have y2 : sz (zL S 1107 0) (fun x => if zO T 201 x = some j' then (zA T 204 x).toInt else 0) = (zA S 402 j').toInt := by
        rw [← g2]
        exact sz_cg _ fun x hx => by rw [aH 204 x (by decide) hx, oH 201 x hx]
      rw [y1, y2]
      by_cases q : some j = some j'
      · rw [if_pos q, if_pos q, if_pos q]
        refine ⟨rfl, ?_⟩
        have ej : j = j' := Option.some.inj q
        subst ej
        obtain ⟨p0, hp0, hpj, -⟩ := h.lqO o7 jm
        have t6 := tI_of (b4.2.2 p0 j hpj).2.2.2.2.2.1
        rw [add_toInt (by omega) (by omega)]
      · rw [if_neg q, if_neg q, if_neg q, Int32.add_zero, Int.add_zero]
        exact ⟨rfl, rfl⟩
  have hm_ : g_hm T V := by
    unfold g_hm
    rw [hL_eq, fyes, hV, hdV_I, if_pos rfl, List.length_append]
    rw [hL_eq] at hm1 hm2 hH
    refine ⟨by rw [hH]; rfl, fun q x hx => ?_⟩
    rw [← hV]
    rcases get_app1 hx with ⟨g1, g2⟩ | ⟨g1, g2⟩
    · obtain ⟨o', j', l', f1, f2, f3, f4, f5, f6, f7, f8⟩ := hm2 q x g1
      have hxm := (List.mem_filter.mp (List.mem_of_getElem? g1)).1
      have nq : q ≠ H := by rw [hH]; omega
      rw [oH 200 x hxm, oH 201 x hxm, oH 203 x hxm, aH 202 x (by decide) hxm, aH 204 x (by decide) hxm, oH 205 x hxm, vx 40 q nq, vx 41 q nq, vx 42 q nq, vx 43 q nq, vx 44 q nq]
      exact ⟨o', j', l', f1, f2, f3, by rw [elq]; exact f4, f5, f6, f7, f8⟩
    · rw [← hH] at g1
      rw [g1, g2, d8, d9, d10, d3, d4, d11, v40, v41, v42, v43, v44]
      exact ⟨o, j, l, rfl, rfl, rfl, by rw [elq], rfl, rfl, rfl, rfl⟩
  have li_ : g_li T V := by
    obtain ⟨l1, l2, l3⟩ := h.li
    unfold g_li
    rw [n7, e704, n4, hO 400 (by decide), hA 401 (by decide), hA 403 (by decide), hB 31 (by decide), hB 36 (by decide), hB 37 (by decide), hB 38 (by decide)]
    refine ⟨fun o' ho' => ⟨(l1 o' ho').1, (l1 o' ho').2.1, fun p j' hj' => ?_⟩, l2, l3⟩
    obtain ⟨c1, c2, c3, c4, c5, c6, c7, c8⟩ := (l1 o' ho').2.2 p j' hj'
    have t5 := tI_of c5
    have t6 := tI_of c6
    have t7 := tI_of c7
    refine ⟨c1, c2, c3, c4, c5, ?_, c7, ?_⟩
    · rw [d5]; split
      · rename_i e
        have := Option.some.inj e
        subst this
        have e2 : (zA S 402 j + n).toInt = (zA S 402 j).toInt + n.toInt := add_toInt (by omega) (by omega)
        exact ⟨by omega, by omega⟩
      · exact c6
    · rw [d5]; split
      · rename_i e
        have := Option.some.inj e
        subst this
        rw [add_toInt (by omega) (by omega)]; omega
      · exact c8
  have ta_ : g_ta T V := by
    unfold g_ta onT
    simp only [elq]
    rw [n10, hL1 1108 (by decide), hI 45 (by decide), hA 1000 (by decide), hA 1001 (by decide), hA 1003 (by decide), hA 1004 (by decide), hA 1005 (by decide), hA 1006 (by decide), hO 1002 (by decide), n5, n7, e704, hB 46 (by decide), hB 47 (by decide), hB 48 (by decide), hB 49 (by decide), hB 50 (by decide), hB 51 (by decide), hB 52 (by decide), hB 54 (by decide), d19]
    refine ⟨ta1, ta2, ta3, fun t ht => ?_⟩
    obtain ⟨f1, f2, f3, f4, f5, f6, f7, x, l', g1, g2, g3, g4, g5, g6, g7, g8⟩ := ta4 t ht
    have hx2 : x ≠ zN S 2 := by omega
    refine ⟨f1, f2, f3, f4, f5, f6, f7, x, l', g1, by omega, by rw [d7 203 x hx2]; exact g3, g4, g5, by rw [d2 202 x hx2 (by decide)]; exact g6, fun r => ?_, ?_⟩
    · obtain ⟨r1, r2, r3, r4⟩ := g7 r
      refine ⟨?_, by rw [d7 205 x hx2]; exact r2, r3, r4⟩
      show x ∈ zL T 1107 0
      rw [eH]; exact List.mem_append_left _ r1
    · rw [d7 200 x hx2, d7 201 x hx2, d2 202 x hx2 (by decide)]
      exact g8
  have eLt : ∀ t, t < zN S 10 → lotT T t = lotT S t := fun t ht => by
    obtain ⟨-, -, -, -, -, -, -, x, l', g1, g2, -⟩ := ta4 t ht
    unfold lotT
    rw [hO 1002 (by decide), g1]
    show (zO T 203 x).getD 0 = (zO S 203 x).getD 0
    rw [d7 203 x (by omega)]
  have ap_ : g_ap T V := by
    refine ⟨fun s' i' hs' hi' => ?_, fun t s' i' ht hs' hon hto hkd => ?_⟩
    · rw [n10, hC 4 (by decide), ap1 s' i' hs' hi']
      refine sm_cg _ fun t ht => ?_
      have ht := List.mem_range.mp ht
      unfold apc
      rw [hA 1005 (by decide), hA 1001 (by decide), hA 1003 (by decide), hA 1004 (by decide), eLt t ht, e501]
    · rw [n10] at ht
      unfold onT at hon
      rw [hA 1005 (by decide)] at hon
      rw [hA 1003 (by decide)] at hto
      rw [hA 1001 (by decide)] at hkd ⊢
      rw [eLt t ht, e501, hO 902 (by decide)]
      exact ap2 t s' i' ht hs' hon hto hkd
  rw [← hV]
  have hN := hNf
  have hL := hL1
  have v := V
  exact ⟨(cg_sl (hA 900 (by decide)) (hA 901 (by decide)) (hA 903 (by decide)) (hA 904 (by decide)) (hO 902 (by decide)) (hB 4 (by decide)) (hB 5 (by decide)) (hB 6 (by decide)) (hB 7 (by decide)) (hB 8 (by decide)) h.sl), (cg_it (hA 300 (by decide)) (hA 301 (by decide)) (hA 302 (by decide)) (hA 303 (by decide)) (hA 304 (by decide)) (hA 305 (by decide)) (hB 9 (by decide)) (hB 10 (by decide)) (hB 11 (by decide)) (hB 12 (by decide)) (hB 13 (by decide)) h.it), (cg_ba (hA 1115 (by decide)) (hB 14 (by decide)) h.ba), (cg_sc (hA 1116 (by decide)) (hA 1118 (by decide)) (hA 1117 (by decide)) (hI 1 (by decide)) (hI 2 (by decide)) (hI 3 (by decide)) h.sc), (cg_lo (hN 5 (by decide)) (hL 1103 (by decide)) (hA 500 (by decide)) (hA 502 (by decide)) (hA 503 (by decide)) (hO 501 (by decide)) (hI 15 (by decide)) (hB 16 (by decide)) (hB 17 (by decide)) (hB 18 (by decide)) h.lo), (cg_be (hL 1104 (by decide)) (hN 5 (by decide)) (hA 502 (by decide)) h.be), (cg_no (hN 6 (by decide)) (hL 1105 (by decide)) (hO 600 (by decide)) (hA 601 (by decide)) (hA 602 (by decide)) (hI 22 (by decide)) (hB 23 (by decide)) (hB 24 (by decide)) (hB 25 (by decide)) h.no), (cg_ca (hC 1110 (by decide)) (hB 26 (by decide)) h.ca), (cg_aw (hC 1111 (by decide)) (hN 7 (by decide)) (hA 705 (by decide)) (hB 33 (by decide)) h.aw), (cg_or (hN 7 (by decide)) (hN 72 (by decide)) (hL 1106 (by decide)) (hA 700 (by decide)) (hA 701 (by decide)) (hA 702 (by decide)) (hA 703 (by decide)) (hA 705 (by decide)) (hI 27 (by decide)) (hB 28 (by decide)) (hB 29 (by decide)) (hB 30 (by decide)) (hB 31 (by decide)) (hB 32 (by decide)) h.or), li_, (cg_bk (hC 0 (by decide)) (hC 1 (by decide)) (hN 5 (by decide)) (hO 501 (by decide)) (hB 19 (by decide)) h.bk), (cg_nn (hC 0 (by decide)) (hC 2 (by decide)) h.nn), (cg_tr (hC 2 (by decide)) (hC 0 (by decide)) (hB 20 (by decide)) h.tr), (cg_db (hC 5 (by decide)) (hB 21 (by decide)) h.db), (cg_mv (hA 7 (by decide)) (hN 60 (by decide)) hM (hC 0 (by decide)) h.mv), ho_, hs_, hm_, ta_, ap_, (cg_ro (hA 801 (by decide)) (hA 802 (by decide)) (hL 800 (by decide)) (hA 1005 (by decide)) (hN 10 (by decide)) (hB 53 (by decide)) (hB 55 (by decide)) (hB 56 (by decide)) (hB 58 (by decide)) (hB 59 (by decide)) h.ro), (cg_st (hN 7 (by decide)) (hA 705 (by decide)) (hN 5 (by decide)) (hC 0 (by decide)) (hL 704 (by decide)) (hA 403 (by decide)) h.st), (cg_bx (hN 7 (by decide)) (hA 705 (by decide)) (hA 706 (by decide)) (hC 1112 (by decide)) (hA 302 (by decide)) (hA 303 (by decide)) (hA 304 (by decide)) (hO 501 (by decide)) (hN 5 (by decide)) (hB 34 (by decide)) (hB 35 (by decide)) h.bx)⟩
end
