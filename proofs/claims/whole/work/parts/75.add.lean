/-! a holding without an order, and its task -/
section
variable {B k : Nat} {S T : Ss} {w v : MS}
def AD (S T : Ss) (w v : MS) (kd : Int32) (p l : Nat) (n : Int32) (s i : Nat) : Prop := (∀ f, f / 100 ≠ 2 ∧ f / 100 ≠ 10 → zA T f = zA S f) ∧ (∀ f x, f / 100 = 2 → x ≠ zN S 2 → zA T f x = zA S f x) ∧ (∀ f x, f / 100 = 10 → x ≠ zN S 10 → zA T f x = zA S f x) ∧ (zA T 202 (zN S 2) = nI p ∧ zA T 204 (zN S 2) = n ∧ zO T 200 (zN S 2) = none ∧ zO T 201 (zN S 2) = none ∧ zO T 203 (zN S 2) = some l ∧ zO T 205 (zN S 2) = some (zN S 10)) ∧ (∀ f, f / 100 ≠ 2 ∧ f / 100 ≠ 10 → zO T f = zO S f) ∧ (∀ f x, f / 100 = 2 → x ≠ zN S 2 → zO T f x = zO S f x) ∧ (∀ f x, f / 100 = 10 → x ≠ zN S 10 → zO T f x = zO S f x) ∧ (zA T 1000 (zN S 10) = nI (zN S 10) ∧ zA T 1001 (zN S 10) = kd ∧ zA T 1003 (zN S 10) = nI s ∧ zA T 1004 (zN S 10) = n ∧ zA T 1005 (zN S 10) = 0 ∧ zA T 1006 (zN S 10) = 0 ∧ zO T 1002 (zN S 10) = some (zN S 2)) ∧ (∀ f, f ≠ 1107 ∧ f ≠ 1108 → zL T f = zL S f) ∧ zL T 1107 0 = zL S 1107 0 ++ [zN S 2] ∧ zL T 1108 0 = zL S 1108 0 ++ [zN S 10] ∧ (∀ f, f ≠ 3 ∧ f ≠ 4 → zC T f = zC S f) ∧ (∀ j, zC T 3 j = if j = 12 * p + l then zC S 3 j + n else zC S 3 j) ∧ (∀ j, zC T 4 j = if j = 6 * s + i then zC S 4 j + n else zC S 4 j) ∧ zM T = zM S ∧ (∀ f, f ≠ 2 ∧ f ≠ 10 ∧ f ≠ 61 ∧ f ≠ 62 → zN T f = zN S f) ∧ zN T 2 = zN S 2 + 1 ∧ zN T 10 = zN S 10 + 1 ∧ (∀ f, f < 46 ∨ 54 < f → mA v f = mA w f) ∧ (∀ f x, x ≠ zN S 10 → mA v f x = mA w f x) ∧ (∀ f, f ≠ 45 → mI v f = mI w f) ∧ mI v 45 = nI (zN S 10 + 1) ∧ mA v 46 (zN S 10) = kd ∧ mA v 47 (zN S 10) = nI l ∧ mA v 48 (zN S 10) = nI p ∧ mA v 49 (zN S 10) = nI s ∧ mA v 50 (zN S 10) = -1 ∧ mA v 51 (zN S 10) = n ∧ mA v 52 (zN S 10) = 0 ∧ mA v 53 (zN S 10) = -1 ∧ mA v 54 (zN S 10) = 0
theorem Rel.ad (h : Rel B k S w) {kd n : Int32} {p l s i : Nat} (e : AD S T w v kd p l n s i) (hN : zN S 10 < 60) (hl : l < zN S 5) (hi : itS S l = i) (hs : s < 18) (hn : tI n 1 99) (hk : (kd = 0 ∧ p = 18 ∧ zO S 902 s = none) ∨ (kd = 1 ∧ p < 18 ∧ zO S 902 s = some i)) (hf : n.toInt + (zC S 3 (12 * p + l)).toInt ≤ (zC S 0 (12 * p + l)).toInt) : Rel B k T v := by
  obtain ⟨hA, hA2, hA10, ⟨b1, b2, b3, b4, b5, b6⟩, hO, hO2, hO10, ⟨c1, c2, c3, c4, c5, c6, c7⟩, hL, hL7, hL8, hC, hC3, hC4, hM, hNN, hN2, hN10, hB, hBx, hI, hI45, d46, d47, d48, d49, d50, d51, d52, d53, d54⟩ := id e
  obtain ⟨ho1, ho2, ho3⟩ := h.ho
  obtain ⟨hs1, hs2⟩ := h.hs
  obtain ⟨hm1, hm2⟩ := h.hm
  obtain ⟨ta1, ta2, ta3, ta4⟩ := h.ta
  obtain ⟨ap1, ap2⟩ := h.ap
  obtain ⟨ro1, ro2, ro3, ro4⟩ := h.ro
  have h12 := h.lo.1
  have hp19 : p < 19 := by rcases hk with q | q <;> omega
  have eH : zL T 1107 0 = zL S 1107 0 ++ [zN S 2] := hL7
  have ltH : ∀ x, x ∈ zL S 1107 0 → x < zN S 2 ∧ x ≠ zN S 2 := fun x hx => by
    have := (ho2 x hx).1
    exact ⟨this, by omega⟩
  have aH : ∀ f x, f / 100 = 2 → x ∈ zL S 1107 0 → zA T f x = zA S f x := fun f x hf hx => hA2 f x hf (ltH x hx).2
  have oH : ∀ f x, f / 100 = 2 → x ∈ zL S 1107 0 → zO T f x = zO S f x := fun f x hf hx => hO2 f x hf (ltH x hx).2
  have aT : ∀ f t, f / 100 = 10 → t < zN S 10 → zA T f t = zA S f t := fun f t hf ht => hA10 f t hf (by omega)
  have oT : ∀ f t, f / 100 = 10 → t < zN S 10 → zO T f t = zO S f t := fun f t hf ht => hO10 f t hf (by omega)
  have mT : ∀ f t, t < zN S 10 → mA v f t = mA w f t := fun f t ht => hBx f t (by omega)
  have e501 : ∀ l, itS T l = itS S l := fun l => by unfold itS; rw [hO 501 (by decide)]
  have n5 : zN T 5 = zN S 5 := hNN 5 (by decide)
  have n7 : zN T 7 = zN S 7 := hNN 7 (by decide)
  have n4 : zN T 4 = zN S 4 := hNN 4 (by decide)
  have e705 : zA T 705 = zA S 705 := hA 705 (by decide)
  have e704 : zL T 704 = zL S 704 := hL 704 (by decide)
  have elq : ∀ o j, lqS T o j = lqS S o j := fun o j => by unfold lqS; rw [e704]
  have fno : (zL T 1107 0).filter (fun x => !hasO T x) = (zL S 1107 0).filter (fun x => !hasO S x) ++ [zN S 2] := by
    rw [eH, List.filter_append]
    congr 1
    · exact List.filter_congr fun x hx => by unfold hasO; rw [oH 200 x (by decide) hx]
    · unfold hasO; simp [b3]
  have fyes : (zL T 1107 0).filter (hasO T) = (zL S 1107 0).filter (hasO S) := by
    rw [eH, List.filter_append]
    have : [zN S 2].filter (hasO T) = [] := by unfold hasO; simp [b3]
    rw [this, List.append_nil]
    exact List.filter_congr fun x hx => by unfold hasO; rw [oH 200 x (by decide) hx]
  have ho : g_ho T v := by
    refine ⟨?_, fun x hx => ?_, ?_⟩
    · show (zL T 1107 0).Nodup
      rw [eH, List.nodup_append]
      refine ⟨ho1, by simp, fun a ha b hb => ?_⟩
      rw [List.mem_singleton] at hb
      subst hb
      exact (ltH a ha).2
    · have hx : x ∈ zL T 1107 0 := hx
      rw [eH, List.mem_append, List.mem_singleton] at hx
      rw [hN2, n5, n7, e704, e705, hN10]
      rcases hx with hx | hx
      · obtain ⟨a1, a2, a3, a4, a5, a6⟩ := ho2 x hx
        rw [aH 204 x (by decide) hx, aH 202 x (by decide) hx, oH 203 x (by decide) hx, oH 200 x (by decide) hx, oH 201 x (by decide) hx, oH 205 x (by decide) hx]
        refine ⟨by omega, a2, a3, a4, a5, fun t ht => ?_⟩
        obtain ⟨g1, g2, g3, g4⟩ := a6 t ht
        rw [oT 1002 t (by decide) g1, aT 1005 t (by decide) g1, aT 1004 t (by decide) g1]
        exact ⟨by omega, g2, g3, g4⟩
      · subst hx
        rw [b1, b2, b3, b4, b5, b6]
        refine ⟨by omega, hn, ⟨l, hl, rfl⟩, ⟨p, hp19, rfl⟩, Or.inl ⟨rfl, rfl, _, rfl⟩, fun t ht => ?_⟩
        have : zN S 10 = t := Option.some.inj ht
        subst this
        exact ⟨by omega, c7, Or.inl c5, c4⟩
    · rw [hL_eq, fno, List.pairwise_append]
      refine ⟨?_, by simp, fun a ha b hb => ?_⟩
      · have ho3' := ho3
        rw [hL_eq] at ho3'
        refine List.Pairwise.imp_of_mem (fun {a b} ha hb q => ?_) ho3'
        rw [oH 205 a (by decide) (List.mem_filter.mp ha).1, oH 205 b (by decide) (List.mem_filter.mp hb).1]
        exact q
      · rw [List.mem_singleton] at hb
        subst hb
        obtain ⟨ha1, ha2⟩ := List.mem_filter.mp ha
        have hno := hasO_f ha2
        obtain ⟨-, -, -, -, a5, a6⟩ := ho2 a ha1
        rw [oH 205 a (by decide) ha1, b6]
        rcases a5 with ⟨-, -, t, a5⟩ | ⟨o, j, q, a5, -⟩
        · rw [a5]; exact (a6 t a5).1
        · rw [hno] at a5; cases a5
  have ePc : ∀ p' l' x, x ∈ zL S 1107 0 → hpc T p' l' x = hpc S p' l' x := fun p' l' x hx => by
    unfold hpc
    rw [aH 204 x (by decide) hx, aH 202 x (by decide) hx, oH 203 x (by decide) hx]
  have ePn : ∀ p' l', p' < 19 → l' < 12 → hpc T p' l' (zN S 2) = if p' = p ∧ l' = l then n else 0 := fun p' l' h1 h2 => by
    unfold hpc
    rw [b1, b2, b5]
    by_cases q : p' = p ∧ l' = l
    · rw [if_pos q, if_pos ⟨by rw [q.1], by rw [q.2]⟩]
    · rw [if_neg q, if_neg]
      intro r
      exact q ⟨((nI_eq (b := p') (by omega) (by omega)).mp r.1).symm, (Option.some.inj r.2).symm⟩
  have hs_ : g_hs T v := by
    refine ⟨fun p' l' hp' hl' => ?_, fun j hj => ?_⟩
    · obtain ⟨g1, g2⟩ := hs1 p' l' hp' hl'
      rw [hL_eq] at g1 g2
      have z1 : sm (zL T 1107 0) (hpc T p' l') = sm (zL S 1107 0) (hpc S p' l') + (if p' = p ∧ l' = l then n else 0) := by
        rw [eH, sm_app, ePn p' l' hp' hl', sm_cg _ fun x hx => ePc p' l' x hx]
      have z2 : sz (zL T 1107 0) (fun x => (hpc T p' l' x).toInt) = sz (zL S 1107 0) (fun x => (hpc S p' l' x).toInt) + (if p' = p ∧ l' = l then n else 0).toInt := by
        rw [eH, sz_app, ePn p' l' hp' hl', sz_cg _ fun x hx => by rw [ePc p' l' x hx]]
      rw [hL_eq, z1, z2, hC 0 (by decide), hC3, ← g1]
      by_cases q : p' = p ∧ l' = l
      · obtain ⟨q1, q2⟩ := q
        subst q1; subst q2
        rw [if_pos rfl, if_pos ⟨rfl, rfl⟩]
        refine ⟨rfl, ?_⟩
        have z3 : (zC S 3 (12 * p' + l')).toInt = sz (zL S 1107 0) (fun x => (hpc S p' l' x).toInt) := by
          rw [g1]
          refine sm_toInt _ (fun x hx => ?_) ?_
          · have := (ho2 x hx).2.1
            unfold hpc tI at *
            split
            · omega
            · decide
          · have := (zC S 0 (12 * p' + l')).toInt_lt
            simp only [Int.reducePow] at this
            omega
        omega
      · have q2 : ¬ 12 * p' + l' = 12 * p + l := fun r => q (by omega)
        rw [if_neg q2, if_neg q, Int32.add_zero]
        exact ⟨rfl, by simpa using g2⟩
    · rw [n4] at hj
      obtain ⟨g1, g2⟩ := hs2 j hj
      rw [hL_eq] at g1 g2
      rw [hL_eq, hA 402 (by decide), eH, sm_app, sz_app, b4, if_neg (by simp), if_neg (by simp), Int32.add_zero, Int.add_zero]
      rw [g1]
      refine ⟨sm_cg _ fun x hx => by rw [aH 204 x (by decide) hx, oH 201 x (by decide) hx], ?_⟩
      rw [← g1, ← g2]
      exact sz_cg _ fun x hx => by rw [aH 204 x (by decide) hx, oH 201 x (by decide) hx]
  have hm : g_hm T v := by
    unfold g_hm
    rw [hL_eq, fyes, hI 39 (by decide)]
    rw [hL_eq] at hm1 hm2
    refine ⟨hm1, fun q x hx => ?_⟩
    obtain ⟨o, j, l', f1, f2, f3, f4, f5, f6, f7, f8⟩ := hm2 q x hx
    have hxm := (List.mem_filter.mp (List.mem_of_getElem? hx)).1
    rw [oH 200 x (by decide) hxm, oH 201 x (by decide) hxm, oH 203 x (by decide) hxm, aH 202 x (by decide) hxm, aH 204 x (by decide) hxm, oH 205 x (by decide) hxm, hB 40 (by decide), hB 41 (by decide), hB 42 (by decide), hB 43 (by decide), hB 44 (by decide)]
    exact ⟨o, j, l', f1, f2, f3, by rw [elq]; exact f4, f5, f6, f7, f8⟩
  have ta : g_ta T v := by
    refine ⟨by omega, by rw [hL8, ta2, hN10, List.range_succ], by rw [hI45, hN10], fun t ht => ?_⟩
    rw [hN10] at ht
    by_cases q : t = zN S 10
    · subst q
      rw [c1, c2, c3, c4, c5, c6, c7, d46, d47, d48, d49, d50, d51, d52, d54]
      refine ⟨rfl, rfl, rfl, rfl, rfl, ⟨by have := hn.1; omega, hn.2⟩, by unfold tI; decide, zN S 2, l, rfl, by omega, b5, by omega, rfl, b1.symm, fun _ => ⟨?_, b6, rfl, Or.inl rfl⟩, ?_⟩
      · show zN S 2 ∈ zL T 1107 0
        rw [eH]; exact List.mem_append_right _ (List.mem_singleton.mpr rfl)
      · rcases hk with ⟨q1, q2, -⟩ | ⟨q1, q2, -⟩
        · exact Or.inl ⟨q1, b3, b4, by rw [b1, q2], rfl, s, hs, rfl⟩
        · exact Or.inr (Or.inl ⟨q1, b3, b4, ⟨p, q2, b1⟩, rfl, s, hs, rfl⟩)
    · have ht2 : t < zN S 10 := by omega
      obtain ⟨f1, f2, f3, f4, f5, f6, f7, x, l', g1, g2, g3, g4, g5, g6, g7, g8⟩ := ta4 t ht2
      have hx2 : x ≠ zN S 2 := by omega
      have on : onT T t ↔ onT S t := by unfold onT; rw [aT 1005 t (by decide) ht2]
      rw [aT 1000 t (by decide) ht2, aT 1001 t (by decide) ht2, aT 1003 t (by decide) ht2, aT 1004 t (by decide) ht2, aT 1005 t (by decide) ht2, aT 1006 t (by decide) ht2, oT 1002 t (by decide) ht2, mT 46 t ht2, mT 47 t ht2, mT 48 t ht2, mT 49 t ht2, mT 50 t ht2, mT 51 t ht2, mT 52 t ht2, mT 54 t ht2, n5, n7, e704, on]
      refine ⟨f1, f2, f3, f4, f5, f6, f7, x, l', g1, by omega, by rw [hO2 203 x (by decide) hx2]; exact g3, g4, g5, by rw [hA2 202 x (by decide) hx2]; exact g6, fun r => ?_, ?_⟩
      · obtain ⟨r1, r2, r3, r4⟩ := g7 r
        refine ⟨?_, by rw [hO2 205 x (by decide) hx2]; exact r2, r3, r4⟩
        show x ∈ zL T 1107 0
        rw [eH]; exact List.mem_append_left _ r1
      · rw [hO2 200 x (by decide) hx2, hO2 201 x (by decide) hx2, hA2 202 x (by decide) hx2]
        simp only [elq]
        exact g8
  have eLt : ∀ t, t < zN S 10 → lotT T t = lotT S t := fun t ht => by
    obtain ⟨-, -, -, -, -, -, -, x, l', g1, g2, -⟩ := ta4 t ht
    unfold lotT
    rw [oT 1002 t (by decide) ht, g1]
    show (zO T 203 x).getD 0 = (zO S 203 x).getD 0
    rw [hO2 203 x (by decide) (by omega)]
  have lN : lotT T (zN S 10) = l := by
    unfold lotT
    rw [c7]
    show (zO T 203 (zN S 2)).getD 0 = l
    rw [b5]; rfl
  have kd2 : ¬ kd = 2 := by
    rcases hk with ⟨q, -⟩ | ⟨q, -⟩ <;> (rw [q]; decide)
  have ap : g_ap T v := by
    refine ⟨fun s' i' hs' hi' => ?_, fun t s' i' ht hs' hon hto hkd => ?_⟩
    · rw [hN10, List.range_succ, sm_app, hC4, ap1 s' i' hs' hi']
      have e1 : sm (List.range (zN S 10)) (apc T s' i') = sm (List.range (zN S 10)) (apc S s' i') := sm_cg _ fun t ht => by
        have ht := List.mem_range.mp ht
        unfold apc
        rw [aT 1005 t (by decide) ht, aT 1001 t (by decide) ht, aT 1003 t (by decide) ht, aT 1004 t (by decide) ht, eLt t ht, e501]
      have e2 : apc T s' i' (zN S 10) = if s' = s ∧ i' = i then n else 0 := by
        unfold apc
        rw [c5, c2, c3, c4, lN, e501, hi]
        by_cases q : s' = s ∧ i' = i
        · rw [if_pos q, if_pos ⟨Or.inl rfl, kd2, by rw [q.1], q.2.symm⟩]
        · rw [if_neg q, if_neg]
          rintro ⟨-, -, r1, r2⟩
          exact q ⟨((nI_eq (b := s') (by omega) (by omega)).mp r1).symm, r2.symm⟩
      have hi6 : i < 6 := by
        rw [← hi]; exact (h.lo.2.2.2.1 l hl).2.2.2.2.2.1
      rw [e1, e2]
      by_cases q : s' = s ∧ i' = i
      · rw [if_pos q, if_pos (by omega)]
      · rw [if_neg q, if_neg (by omega), Int32.add_zero]
    · rw [hN10] at ht
      rw [hO 902 (by decide)]
      by_cases q : t = zN S 10
      · subst q
        rw [c3] at hto
        have hss : s = s' := (nI_eq (b := s') (by omega) (by omega)).mp hto
        subst hss
        rw [c2, lN, e501, hi]
        rcases hk with ⟨q1, -, q3⟩ | ⟨q1, -, q3⟩
        · rw [q3]
          exact ⟨fun r => (by cases r), fun _ => q1⟩
        · rw [q3]
          exact ⟨fun r => ⟨q1, Option.some.inj r⟩, fun r => (by cases r)⟩
      · have ht2 : t < zN S 10 := by omega
        have on : onT S t := by unfold onT at *; rw [← aT 1005 t (by decide) ht2]; exact hon
        rw [aT 1003 t (by decide) ht2] at hto
        rw [aT 1001 t (by decide) ht2] at hkd ⊢
        rw [eLt t ht2, e501]
        exact ap2 t s' i' ht2 hs' on hto hkd
  have ro : g_ro T v := by
    have eR : ∀ r, r < 3 → rowS T r = rowS S r := fun r hr => by
      unfold rowS
      rw [hL 800 (by decide)]
      refine List.filter_congr fun t ht => ?_
      rw [aT 1005 t (by decide) ((ro1 r hr).2.2.2.2.2.1 t ht).1]
    unfold g_ro
    rw [hA 801 (by decide), hA 802 (by decide), hL 800 (by decide), hB 55 (by decide), hB 56 (by decide), hB 58 (by decide), hB 59 (by decide), hN10]
    refine ⟨fun r hr => ?_, ro2, ro3, fun t ht => ?_⟩
    · rw [eR r hr]
      obtain ⟨f1, f2, f3, f4, f5, f6, f7⟩ := ro1 r hr
      refine ⟨f1, f2, f3, f4, f5, fun t ht => ?_, fun t ht => ?_⟩
      · obtain ⟨g1, g2⟩ := f6 t ht
        rw [aT 1005 t (by decide) g1]
        exact ⟨by omega, g2⟩
      · have := (f6 t (List.mem_filter.mp ht).1).1
        rw [mT 53 t this]
        exact f7 t ht
    · by_cases q : t = zN S 10
      · subst q
        rw [c5, d53]
        exact ⟨fun _ => rfl, fun r => absurd r (by decide)⟩
      · have ht2 : t < zN S 10 := by omega
        rw [aT 1005 t (by decide) ht2, mT 53 t ht2]
        exact ro4 t ht2
  have hN := hNN
  exact ⟨(cg_sl (hA 900 (by decide)) (hA 901 (by decide)) (hA 903 (by decide)) (hA 904 (by decide)) (hO 902 (by decide)) (hB 4 (by decide)) (hB 5 (by decide)) (hB 6 (by decide)) (hB 7 (by decide)) (hB 8 (by decide)) h.sl), (cg_it (hA 300 (by decide)) (hA 301 (by decide)) (hA 302 (by decide)) (hA 303 (by decide)) (hA 304 (by decide)) (hA 305 (by decide)) (hB 9 (by decide)) (hB 10 (by decide)) (hB 11 (by decide)) (hB 12 (by decide)) (hB 13 (by decide)) h.it), (cg_ba (hA 1115 (by decide)) (hB 14 (by decide)) h.ba), (cg_sc (hA 1116 (by decide)) (hA 1118 (by decide)) (hA 1117 (by decide)) (hI 1 (by decide)) (hI 2 (by decide)) (hI 3 (by decide)) h.sc), (cg_lo (hN 5 (by decide)) (hL 1103 (by decide)) (hA 500 (by decide)) (hA 502 (by decide)) (hA 503 (by decide)) (hO 501 (by decide)) (hI 15 (by decide)) (hB 16 (by decide)) (hB 17 (by decide)) (hB 18 (by decide)) h.lo), (cg_be (hL 1104 (by decide)) (hN 5 (by decide)) (hA 502 (by decide)) h.be), (cg_no (hN 6 (by decide)) (hL 1105 (by decide)) (hO 600 (by decide)) (hA 601 (by decide)) (hA 602 (by decide)) (hI 22 (by decide)) (hB 23 (by decide)) (hB 24 (by decide)) (hB 25 (by decide)) h.no), (cg_ca (hC 1110 (by decide)) (hB 26 (by decide)) h.ca), (cg_aw (hC 1111 (by decide)) (hN 7 (by decide)) (hA 705 (by decide)) (hB 33 (by decide)) h.aw), (cg_or (hN 7 (by decide)) (hN 72 (by decide)) (hL 1106 (by decide)) (hA 700 (by decide)) (hA 701 (by decide)) (hA 702 (by decide)) (hA 703 (by decide)) (hA 705 (by decide)) (hI 27 (by decide)) (hB 28 (by decide)) (hB 29 (by decide)) (hB 30 (by decide)) (hB 31 (by decide)) (hB 32 (by decide)) h.or), (cg_li (hN 7 (by decide)) (hL 704 (by decide)) (hN 4 (by decide)) (hO 400 (by decide)) (hA 401 (by decide)) (hA 402 (by decide)) (hA 403 (by decide)) (hB 31 (by decide)) (hB 36 (by decide)) (hB 37 (by decide)) (hB 38 (by decide)) h.li), (cg_bk (hC 0 (by decide)) (hC 1 (by decide)) (hN 5 (by decide)) (hO 501 (by decide)) (hB 19 (by decide)) h.bk), (cg_nn (hC 0 (by decide)) (hC 2 (by decide)) h.nn), (cg_tr (hC 2 (by decide)) (hC 0 (by decide)) (hB 20 (by decide)) h.tr), (cg_db (hC 5 (by decide)) (hB 21 (by decide)) h.db), (cg_mv (hA 7 (by decide)) (hN 60 (by decide)) hM (hC 0 (by decide)) h.mv), ho, hs_, hm, ta, ap, ro, (cg_st (hN 7 (by decide)) (hA 705 (by decide)) (hN 5 (by decide)) (hC 0 (by decide)) (hL 704 (by decide)) (hA 403 (by decide)) h.st), (cg_bx (hN 7 (by decide)) (hA 705 (by decide)) (hA 706 (by decide)) (hC 1112 (by decide)) (hA 302 (by decide)) (hA 303 (by decide)) (hA 304 (by decide)) (hO 501 (by decide)) (hN 5 (by decide)) (hB 34 (by decide)) (hB 35 (by decide)) h.bx)⟩
end
