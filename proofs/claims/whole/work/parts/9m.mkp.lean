/-! a PICK is made for a holding of an order -/
section
variable {B k : Nat} {S T : Ss} {w v : MS}
def pkV (S : Ss) (w : MS) (n x o j l s : Nat) : MS := mSA 44 n (nI (zN S 10)) (mkV w (zN S 10) 2 (nI l) (nI s) (nI (20 + o)) (nI (lqS S o j)) (zA S 204 x))
theorem mkV_b {N f : Nat} {kd l p s j n : Int32} (hf : f < 46 ∨ 54 < f) : mA (mkV w N kd l p s j n) f = mA w f := by
  unfold mkV
  simp only [mA_mSI]
  rw [fBA (by omega), fBA (by omega), fBA (by omega), fBA (by omega), fBA (by omega), fBA (by omega), fBA (by omega), fBA (by omega), fBA (by omega)]
theorem mkV_x {N f x : Nat} {kd l p s j n : Int32} (hx : x ≠ N) : mA (mkV w N kd l p s j n) f x = mA w f x := by
  unfold mkV
  simp only [mA_mSI, mA_mSA]
  rw [if_neg (fun r => hx r.2), if_neg (fun r => hx r.2), if_neg (fun r => hx r.2), if_neg (fun r => hx r.2), if_neg (fun r => hx r.2), if_neg (fun r => hx r.2), if_neg (fun r => hx r.2), if_neg (fun r => hx r.2), if_neg (fun r => hx r.2)]
theorem mkV_i {N f : Nat} {kd l p s j n : Int32} : mI (mkV w N kd l p s j n) f = if f = 45 then nI (N + 1) else mI w f := by
  unfold mkV
  rw [mI_mSI]; rfl
theorem mkV_n {N : Nat} {kd l p s j n : Int32} : mA (mkV w N kd l p s j n) 46 N = kd ∧ mA (mkV w N kd l p s j n) 47 N = l ∧ mA (mkV w N kd l p s j n) 48 N = p ∧ mA (mkV w N kd l p s j n) 49 N = s ∧ mA (mkV w N kd l p s j n) 50 N = j ∧ mA (mkV w N kd l p s j n) 51 N = n ∧ mA (mkV w N kd l p s j n) 52 N = 0 ∧ mA (mkV w N kd l p s j n) 53 N = -1 ∧ mA (mkV w N kd l p s j n) 54 N = 0 := by
  refine ⟨?_, ?_, ?_, ?_, ?_, ?_, ?_, ?_, ?_⟩
  all_goals (unfold mkV; simp only [kif, r_gb, gbn_s, r_grd, r_gbo, r_gret, r_gst, k_isIn, k_isSlot, k_isItem, k_isGroup, k_isRobot, k_are, k_holds0, k_holds1, k_holds2, k_holds3, k_bit, k_less, bI_t, bI_f, i10, i00, i01, i11, i20, i30, ↓reduceIte, mI_mSA, mI_mSI, mA_mSI, mA_mSA, Nat.reduceEqDiff, reduceCtorEq, Nat.reduceEqDiff, false_and, true_and, and_true])
theorem Rel.mkP (h : Rel B k S w) {x n o j l s : Nat} (hN : zN S 10 < 60) (hx : x ∈ hL S) (ho : zO S 200 x = some o) (hj : zO S 201 x = some j) (h205 : zO S 205 x = none) (hlo : zO S 203 x = some l) (hsl : zA S 202 x = nI s) (hs : s < 18) (hn : ((hL S).filter (hasO S))[n]? = some x) (hMk : MK S T 2 x (nI (20 + o))) (hC1 : zC T = zC S) : Rel B k T (pkV S w n x o j l s) := by
  obtain ⟨mA1, mA2, c1, c2, c3, c4, c5, c6, mO1, mO2, m205, c7, mL1, mL8, -, mM1, mN1, mN10, -⟩ := hMk
  obtain ⟨V, hV⟩ : ∃ V, V = pkV S w n x o j l s := ⟨_, rfl⟩
  have hA : ∀ f, f / 100 ≠ 10 → zA T f = zA S f := mA1
  have hO : ∀ f, f / 100 ≠ 10 ∧ f ≠ 205 → zO T f = zO S f := fun f hf => mO1 f hf.1 hf.2
  have hL : ∀ f, f ≠ 1108 → zL T f = zL S f := mL1
  have hC : ∀ f, True → zC T f = zC S f := fun f _ => by rw [hC1]
  have hNf : ∀ f, f ≠ 10 ∧ f ≠ 61 ∧ f ≠ 62 → zN T f = zN S f := mN1
  have hM : zM T = zM S := mM1
  have hI : ∀ f, f ≠ 45 → mI V f = mI w f := fun f hf => by rw [hV]; unfold pkV; rw [tIB, mkV_i, if_neg hf]
  have hI45 : mI V 45 = nI (zN S 10 + 1) := by rw [hV]; unfold pkV; rw [tIB, mkV_i, if_pos rfl]
  have hB : ∀ f, f ≠ 44 ∧ (f < 46 ∨ 54 < f) → mA V f = mA w f := fun f hf => by rw [hV]; unfold pkV; rw [fBA hf.1, mkV_b hf.2]
  have v44 : ∀ q, mA V 44 q = if q = n then nI (zN S 10) else mA w 44 q := fun q => by rw [hV]; unfold pkV; rw [sBA, mkV_b (by decide)]
  have vx : ∀ f t, f ≠ 44 → t ≠ zN S 10 → mA V f t = mA w f t := fun f t hf ht => by rw [hV]; unfold pkV; rw [fBA hf, mkV_x ht]
  obtain ⟨d46, d47, d48, d49, d50, d51, d52, d53, d54⟩ : mA V 46 (zN S 10) = 2 ∧ mA V 47 (zN S 10) = nI l ∧ mA V 48 (zN S 10) = nI s ∧ mA V 49 (zN S 10) = nI (20 + o) ∧ mA V 50 (zN S 10) = nI (lqS S o j) ∧ mA V 51 (zN S 10) = zA S 204 x ∧ mA V 52 (zN S 10) = 0 ∧ mA V 53 (zN S 10) = -1 ∧ mA V 54 (zN S 10) = 0 := by
    rw [hV]; unfold pkV
    rw [fBA (by decide), fBA (by decide), fBA (by decide), fBA (by decide), fBA (by decide), fBA (by decide), fBA (by decide), fBA (by decide), fBA (by decide)]
    exact mkV_n
  obtain ⟨ho1, ho2, ho3⟩ := h.ho
  obtain ⟨hm1, hm2⟩ := h.hm
  obtain ⟨ta1, ta2, ta3, ta4⟩ := h.ta
  obtain ⟨ap1, ap2⟩ := h.ap
  obtain ⟨ro1, ro2, ro3, ro4⟩ := h.ro
  obtain ⟨j', p1, o7, jm, h705, -⟩ := h.hpos hx ho
  have ej : j' = j := Option.some.inj (p1.symm.trans hj)
  subst ej
  have aT : ∀ f t, t < zN S 10 → zA T f t = zA S f t := fun f t ht => mA2 f t (by omega)
  have oT : ∀ f t, f ≠ 205 → t < zN S 10 → zO T f t = zO S f t := fun f t hf ht => mO2 f t (by omega) hf
  have e704 : zL T 704 = zL S 704 := hL 704 (by decide)
  have elq : ∀ o j, lqS T o j = lqS S o j := fun o j => by unfold lqS; rw [e704]
  have eH : zL T 1107 = zL S 1107 := hL 1107 (by decide)
  have eHas : hasO T = hasO S := by funext y; unfold hasO; rw [hO 200 (by decide)]
  have ex : ∀ y, y ≠ x → zO T 205 y = zO S 205 y := fun y hy => by rw [m205, if_neg hy]
  have exx : zO T 205 x = some (zN S 10) := by rw [m205, if_pos rfl]
  have ho_ : g_ho T V := by
    unfold g_ho
    rw [hL_eq, eH, eHas, hNf 2 (by decide), hNf 5 (by decide), hO 203 (by decide), hA 202 (by decide), hO 200 (by decide), hO 201 (by decide), hNf 7 (by decide), e704, hA 705 (by decide), hA 204 (by decide), mN10]
    refine ⟨ho1, fun y hy => ?_, ?_⟩
    · obtain ⟨a1, a2, a3, a4, a5, a6⟩ := ho2 y hy
      refine ⟨a1, a2, a3, a4, ?_, fun t ht => ?_⟩
      · rcases a5 with ⟨b1, b2, t, b3⟩ | a5
        · have hne : y ≠ x := fun e => by rw [e, ho] at b1; cases b1
          exact Or.inl ⟨b1, b2, t, by rw [ex y hne]; exact b3⟩
        · exact Or.inr a5
      · by_cases e : y = x
        · rw [e, exx] at ht
          have : zN S 10 = t := Option.some.inj ht
          subst this
          rw [e]
          exact ⟨by omega, c7, Or.inl c5, c4⟩
        · rw [ex y e] at ht
          obtain ⟨g1, g2, g3, g4⟩ := a6 t ht
          rw [oT 1002 t (by decide) g1, aT 1005 t g1, aT 1004 t g1]
          exact ⟨by omega, g2, g3, g4⟩
    · rw [hL_eq] at ho3
      refine List.Pairwise.imp_of_mem (fun {a b} ha hb q => ?_) ho3
      have na : a ≠ x := fun e => by have := hasO_f (List.mem_filter.mp ha).2; rw [e, ho] at this; cases this
      have nb : b ≠ x := fun e => by have := hasO_f (List.mem_filter.mp hb).2; rw [e, ho] at this; cases this
      rw [ex a na, ex b nb]; exact q
  have hm_ : g_hm T V := by
    unfold g_hm
    rw [hL_eq, eH, eHas, hI 39 (by decide), hO 200 (by decide), hO 201 (by decide), hO 203 (by decide), hA 202 (by decide), hA 204 (by decide), hB 40 (by decide), hB 41 (by decide), hB 42 (by decide), hB 43 (by decide)]
    simp only [elq]
    rw [hL_eq] at hm1 hm2 hn
    refine ⟨hm1, fun q y hy => ?_⟩
    obtain ⟨o', j', l', f1, f2, f3, f4, f5, f6, f7, f8⟩ := hm2 q y hy
    refine ⟨o', j', l', f1, f2, f3, f4, f5, f6, f7, ?_⟩
    rw [v44]
    by_cases e : q = n
    · have e2 : x = y := by rw [e] at hy; exact Option.some.inj (hn.symm.trans hy)
      rw [if_pos e, ← e2, exx]; rfl
    · rw [if_neg e]
      have e2 : y ≠ x := fun e2 => by
        rw [e2] at hy
        exact e (nd_inj (ho1.sublist List.filter_sublist) hy hn)
      rw [ex y e2]; exact f8
  have ta_ : g_ta T V := by
    refine ⟨by omega, by rw [mL8, ta2, mN10, List.range_succ], by rw [hI45, mN10], fun t ht => ?_⟩
    rw [mN10] at ht
    by_cases q : t = zN S 10
    · subst q
      rw [c1, c2, c3, c4, c5, c6, c7, d46, d47, d48, d49, d50, d51, d52, d54, h.nt, hNf 2 (by decide), hNf 5 (by decide), hO 203 (by decide), hA 202 (by decide), hO 200 (by decide), hO 201 (by decide), hNf 7 (by decide), e704]
      obtain ⟨a1, a2, ⟨l2, a3, a3'⟩, -⟩ := ho2 x hx
      have el : l2 = l := Option.some.inj (a3'.symm.trans hlo)
      subst el
      have t2 := tI_of a2
      refine ⟨rfl, rfl, rfl, rfl, rfl, ⟨by omega, t2.2⟩, by unfold tI; decide, x, l2, rfl, a1, hlo, a3, rfl, hsl.symm, fun _ => ⟨?_, exx, rfl, Or.inl rfl⟩, Or.inr (Or.inr ⟨rfl, ⟨s, hs, hsl⟩, fun _ => rfl, o, j', ho, hj, o7, jm, by rw [elq], rfl⟩)⟩
      show x ∈ zL T 1107 0
      rw [eH]; exact hx
    · have ht2 : t < zN S 10 := by omega
      obtain ⟨f1, f2, f3, f4, f5, f6, f7, y, l', g1, g2, g3, g4, g5, g6, g7, g8⟩ := ta4 t ht2
      have on : onT T t ↔ onT S t := by unfold onT; rw [aT 1005 t ht2]
      rw [aT 1000 t ht2, aT 1001 t ht2, aT 1003 t ht2, aT 1004 t ht2, aT 1005 t ht2, aT 1006 t ht2, oT 1002 t (by decide) ht2, vx 46 t (by decide) q, vx 47 t (by decide) q, vx 48 t (by decide) q, vx 49 t (by decide) q, vx 50 t (by decide) q, vx 51 t (by decide) q, vx 52 t (by decide) q, vx 54 t (by decide) q, hNf 5 (by decide), hNf 7 (by decide), hNf 2 (by decide), e704, on, hO 203 (by decide), hO 200 (by decide), hO 201 (by decide), hA 202 (by decide)]
      refine ⟨f1, f2, f3, f4, f5, f6, f7, y, l', g1, g2, g3, g4, g5, g6, fun r => ?_, by simp only [elq]; exact g8⟩
      obtain ⟨r1, r2, r3, r4⟩ := g7 r
      have hne : y ≠ x := fun e => by rw [e, h205] at r2; cases r2
      refine ⟨?_, by rw [ex y hne]; exact r2, r3, r4⟩
      show y ∈ zL T 1107 0
      rw [eH]; exact r1
  have eLt : ∀ t, t < zN S 10 → lotT T t = lotT S t := fun t ht => by
    unfold lotT
    rw [oT 1002 t (by decide) ht, hO 203 (by decide)]
  have e501 : ∀ l, itS T l = itS S l := fun l => by unfold itS; rw [hO 501 (by decide)]
  have ap_ : g_ap T V := by
    refine ⟨fun s' i' hs' hi' => ?_, fun t s' i' ht hs' hon hto hkd => ?_⟩
    · rw [mN10, List.range_succ, sm_app, hC1, ap1 s' i' hs' hi']
      have e1 : sm (List.range (zN S 10)) (apc T s' i') = sm (List.range (zN S 10)) (apc S s' i') := sm_cg _ fun t ht => by
        have ht := List.mem_range.mp ht
        unfold apc
        rw [aT 1005 t ht, aT 1001 t ht, aT 1003 t ht, aT 1004 t ht, eLt t ht, e501]
      have e2 : apc T s' i' (zN S 10) = 0 := by
        unfold apc
        rw [c2, if_neg (fun r => r.2.1 rfl)]
      rw [e1, e2, Int32.add_zero]
    · rw [mN10] at ht
      by_cases q : t = zN S 10
      · rw [q, c2] at hkd; exact absurd rfl hkd
      · have ht2 : t < zN S 10 := by omega
        have on : onT S t := by unfold onT at *; rw [← aT 1005 t ht2]; exact hon
        rw [aT 1003 t ht2] at hto
        rw [aT 1001 t ht2] at hkd ⊢
        rw [eLt t ht2, e501, hO 902 (by decide)]
        exact ap2 t s' i' ht2 hs' on hto hkd
  have ro_ : g_ro T V := by
    have eR : ∀ r, r < 3 → rowS T r = rowS S r := fun r hr => by
      unfold rowS
      rw [hL 800 (by decide)]
      refine List.filter_congr fun t ht => ?_
      rw [aT 1005 t ((ro1 r hr).2.2.2.2.2.1 t ht).1]
    unfold g_ro
    rw [hA 801 (by decide), hA 802 (by decide), hL 800 (by decide), hB 55 (by decide), hB 56 (by decide), hB 58 (by decide), hB 59 (by decide), mN10]
    refine ⟨fun r hr => ?_, ro2, ro3, fun t ht => ?_⟩
    · rw [eR r hr]
      obtain ⟨f1, f2, f3, f4, f5, f6, f7⟩ := ro1 r hr
      refine ⟨f1, f2, f3, f4, f5, fun t ht => ?_, fun t ht => ?_⟩
      · obtain ⟨g1, g2⟩ := f6 t ht
        rw [aT 1005 t g1]
        exact ⟨by omega, g2⟩
      · have := (f6 t (List.mem_filter.mp ht).1).1
        rw [vx 53 t (by decide) (by omega)]
        exact f7 t ht
    · by_cases q : t = zN S 10
      · subst q
        rw [c5, d53]
        exact ⟨fun _ => rfl, fun r => absurd r (by decide)⟩
      · have ht2 : t < zN S 10 := by omega
        rw [aT 1005 t ht2, vx 53 t (by decide) q]
        exact ro4 t ht2
  rw [← hV]
  have hN := hNf
  have v := V
  have R : Rel B k T V := by
    have w' := w
    exact ⟨(cg_sl (hA 900 (by decide)) (hA 901 (by decide)) (hA 903 (by decide)) (hA 904 (by decide)) (hO 902 (by decide)) (hB 4 (by decide)) (hB 5 (by decide)) (hB 6 (by decide)) (hB 7 (by decide)) (hB 8 (by decide)) h.sl), (cg_it (hA 300 (by decide)) (hA 301 (by decide)) (hA 302 (by decide)) (hA 303 (by decide)) (hA 304 (by decide)) (hA 305 (by decide)) (hB 9 (by decide)) (hB 10 (by decide)) (hB 11 (by decide)) (hB 12 (by decide)) (hB 13 (by decide)) h.it), (cg_ba (hA 1115 (by decide)) (hB 14 (by decide)) h.ba), (cg_sc (hA 1116 (by decide)) (hA 1118 (by decide)) (hA 1117 (by decide)) (hI 1 (by decide)) (hI 2 (by decide)) (hI 3 (by decide)) h.sc), (cg_lo (hN 5 (by decide)) (hL 1103 (by decide)) (hA 500 (by decide)) (hA 502 (by decide)) (hA 503 (by decide)) (hO 501 (by decide)) (hI 15 (by decide)) (hB 16 (by decide)) (hB 17 (by decide)) (hB 18 (by decide)) h.lo), (cg_be (hL 1104 (by decide)) (hN 5 (by decide)) (hA 502 (by decide)) h.be), (cg_no (hN 6 (by decide)) (hL 1105 (by decide)) (hO 600 (by decide)) (hA 601 (by decide)) (hA 602 (by decide)) (hI 22 (by decide)) (hB 23 (by decide)) (hB 24 (by decide)) (hB 25 (by decide)) h.no), (cg_ca (hC 1110 (by decide)) (hB 26 (by decide)) h.ca), (cg_aw (hC 1111 (by decide)) (hN 7 (by decide)) (hA 705 (by decide)) (hB 33 (by decide)) h.aw), (cg_or (hN 7 (by decide)) (hN 72 (by decide)) (hL 1106 (by decide)) (hA 700 (by decide)) (hA 701 (by decide)) (hA 702 (by decide)) (hA 703 (by decide)) (hA 705 (by decide)) (hI 27 (by decide)) (hB 28 (by decide)) (hB 29 (by decide)) (hB 30 (by decide)) (hB 31 (by decide)) (hB 32 (by decide)) h.or), (cg_li (hN 7 (by decide)) (hL 704 (by decide)) (hN 4 (by decide)) (hO 400 (by decide)) (hA 401 (by decide)) (hA 402 (by decide)) (hA 403 (by decide)) (hB 31 (by decide)) (hB 36 (by decide)) (hB 37 (by decide)) (hB 38 (by decide)) h.li), (cg_bk (hC 0 (by decide)) (hC 1 (by decide)) (hN 5 (by decide)) (hO 501 (by decide)) (hB 19 (by decide)) h.bk), (cg_nn (hC 0 (by decide)) (hC 2 (by decide)) h.nn), (cg_tr (hC 2 (by decide)) (hC 0 (by decide)) (hB 20 (by decide)) h.tr), (cg_db (hC 5 (by decide)) (hB 21 (by decide)) h.db), (cg_mv (hA 7 (by decide)) (hN 60 (by decide)) hM (hC 0 (by decide)) h.mv), ho_, (cg_hs (hC 3 (by decide)) (hL 1107 (by decide)) (hA 202 (by decide)) (hO 203 (by decide)) (hA 204 (by decide)) (hC 0 (by decide)) (hN 4 (by decide)) (hA 402 (by decide)) (hO 201 (by decide)) h.hs), hm_, ta_, ap_, ro_, (cg_st (hN 7 (by decide)) (hA 705 (by decide)) (hN 5 (by decide)) (hC 0 (by decide)) (hL 704 (by decide)) (hA 403 (by decide)) h.st), (cg_bx (hN 7 (by decide)) (hA 705 (by decide)) (hA 706 (by decide)) (hC 1112 (by decide)) (hA 302 (by decide)) (hA 303 (by decide)) (hA 304 (by decide)) (hO 501 (by decide)) (hN 5 (by decide)) (hB 34 (by decide)) (hB 35 (by decide)) h.bx)⟩
  exact R
end
