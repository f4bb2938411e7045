/-! a PICK is done, whole -/
section
variable {B k : Nat} {S T S1 Z A T1 U : Ss} {w v u w0 wz : MS}
theorem ZS.wf {p0 st0 q0 : Nat → Int32} (hZ : ZS S S1 Z p0 st0 q0) (hN : ∀ f, f = 4 ∨ f = 5 ∨ f = 7 ∨ f = 10 → zN S1 f = zN S f) {x : Nat} (h : hwf S x) : hwf Z x := by
  obtain ⟨zA1, zO1, -, -, -, -, zN1, -⟩ := hZ
  have hi : ∀ q, itS Z q = itS S q := fun q => by unfold itS; rw [zO1]
  unfold hwf
  simp only [hi]
  rw [zO1, zA1 500 (by decide), zA1 202 (by decide), zA1 700 (by decide), zA1 1001 (by decide), zA1 1003 (by decide), zN1, hN 4 (by decide), hN 5 (by decide), hN 7 (by decide), hN 10 (by decide)]
  exact h
theorem Rel.doK (h : Rel B k S w) (hk : k + 2 ≤ 1024) (hB9 : B + 99 ≤ 8000000) {t x0 l a o j k1 : Nat} {x n : Int32} {p0 st0 q0 p0' st0' : Nat → Int32} (ht : t < zN S 10) (hx0 : x0 ∈ hL S) (ht0 : zO S 205 x0 = some t) (d1 : zO S 1002 t = some x0) (d3 : zO S 203 x0 = some l) (d4 : l < zN S 5) (d5 : mA w 47 t = nI l) (ha : a < 18) (ha' : zA S 202 x0 = nI a) (hj : zO S 201 x0 = some j) (ho7 : o < zN S 7) (hjm : j ∈ zL S 704 o) (h705 : zA S 705 o = 0) (hs' : zA S 1003 t = nI (20 + o)) (hkd : zA S 1001 t = 2) (t50 : mA w 50 t = nI (lqS S o j)) (hW : WR S S1 none (some a) l x k) (hWk : k1 ≤ k + 1) (hWm : ∀ p l', p < 28 → l' < 12 → mvS (zM S1) k1 p l' = mvS (zM S) k p l' + dd none (some a) l x (12 * p + l')) (hmv : mvA S1 k1) (hZ : ZS S S1 Z p0 st0 q0) (pf0 : PF S p0 st0 q0) (hn : q0 t = n) (hxZ : x0 ∈ hL Z ∨ zA Z 204 x0 = 0) (tn : tI n 0 99) (hnle : n.toInt ≤ (zA S 204 x0).toInt) (hn2 : n.toInt ≤ (zC S 2 (12 * a + l)).toInt) (hn1 : n.toInt ≤ (zC S1 0 (12 * a + l)).toInt) (hv : tI (zC S1 0 (12 * a + l)) 0 B) (hbk0 : ∀ T : Ss, hL T = ((hL S).filter fun y => decide (0 < (if y = x0 then (0 : Int32) else p0 y))) → (∀ y, y ∈ hL S → zA T 204 y = if y = x0 then 0 else p0 y) → zA T 202 = zA S 202 → zO T 203 = zO S 203 → sz (hL T) (fun y => (hpc T a l y).toInt) + n.toInt ≤ (zC S1 0 (12 * a + l)).toInt) (kx : KX S wz p0' st0' q0) (kp : ∀ y, ¬ y = x0 → p0' y = p0 y) (ks : ∀ s, ¬ s = t → st0' s = st0 s) (z19 : ∀ j, j < 336 → mA wz 19 j = mA w 19 j + dd none (some a) l x j) (z20 : mA wz 20 = mA w 20) (z21 : ∀ p l', p < 18 → l' < 12 → mA wz 21 (12 * p + l') = if l' = l ∧ ¬ x = 0 ∧ p = a then -1 else mA w 21 (12 * p + l')) (zI : ∀ f, f ≠ 39 → mI wz f = mI w f) (zB : ∀ f, f ≠ 19 ∧ f ≠ 21 ∧ f ≠ 40 ∧ f ≠ 41 ∧ f ≠ 42 ∧ f ≠ 43 ∧ f ≠ 44 ∧ f ≠ 51 ∧ f ≠ 52 ∧ f ≠ 58 ∧ f ≠ 59 → mA wz f = mA w f) : ∃ T u k', (f_X11_finish t).1 Z = some ((), T) ∧ g_X12_does_195 (nI t) (nI l) wz = some ((), u) ∧ Rel (B + 99) k' T u ∧ k' ≤ k1 + 1 ∧ zP T = zP S ∧ (∀ f, f ≠ 60 ∧ f ≠ 61 ∧ f ≠ 62 → zN T f = zN S f) ∧ cst S T ∧ zA T 705 = zA S 705 ∧ (∀ q, mA u 57 q = mA w 57 q ∧ zA T 803 q = zA S 803 q) ∧ mI u 0 = mI w 0 ∧ (∀ q, zA T 1005 q = if q = t then 2 else zA Z 1005 q) ∧ zA T 1006 = zA S 1006 := by
  have h12 := h.lo.1
  have h8 := h.or.1
  have h60 := h.ta.1
  have B8 := h.nn.1
  have hW' := hW
  have hZ' := hZ
  obtain ⟨wA, wO, wL, wP, wC, wN, wc, w0, -⟩ := hW'
  obtain ⟨zA1, zO1, zL1, zP1, zC1, zM1, zN1, z7, zH, z204, zT, zco⟩ := hZ'
  obtain ⟨b1, -, -, -, b5, b6, -⟩ := h.lo.2.2.2.1 l d4
  have itZ : itS Z l = itS S l := itS_O (by rw [zO1]) l
  obtain ⟨p9, hp9, hpj, hq⟩ := h.lqO ho7 hjm
  have hq24 : lqS S o j < 24 := by omega
  obtain ⟨A, T1, e2, e3, e4, e5, e6, e7, e8, -, -, f2⟩ := e_finish0 (S := Z) (t := t) (x0 := x0) (l := l) (a := a) (b := 20 + o) (k1 := k1) (n := n) zco (by rw [zO1]; exact d1) (by rw [zO1]; exact d3) (by rw [zA1 202 (by decide)]; exact ha') (by rw [zA1 1003 (by decide)]; exact hs') (by rw [(zT t ht).1]; exact hn) (hZ.wf (fun f hf => wN f (by omega)) (h.hwf hx0)) hxZ (by rw [zA1 500 (by decide)]; exact b1) (by rw [zO1, itZ]; exact b5) (by rw [itZ]; exact b6) (by omega) (by unfold mvA at hmv ⊢; rw [z7, zN1]; exact hmv) (by omega) (by omega) (by omega)
  have fin := f2 j (by rw [zA1 1001 (by decide)]; exact hkd) (by rw [zO1]; exact hj)
  have hrl : rl S1 (some a) l n = n := by
    show (if zC S1 2 (12 * a + l) < n then zC S1 2 (12 * a + l) else n) = n
    rw [wC 2 (by decide), if_neg]
    intro q
    have := Int32.lt_iff_toInt_lt.mp q
    omega
  obtain ⟨T, hT⟩ : ∃ T, T = pA 403 j (zA Z 403 j + n) (pA 1118 0 (zA Z 1118 0 + n) (pA 1005 t 2 (drS T1))) := ⟨_, rfl⟩
  rw [← hT] at fin
  -- the reference
  have w46 : mA wz 46 t = 2 := by rw [zB 46 (by decide), (h.ta.2.2.2 t ht).2.1, hkd]
  obtain ⟨-, -, t49, -, -, -, -, x0', l', g1, -, g3, -, -, g6, -⟩ := h.ta.2.2.2 t ht
  have ex : x0' = x0 := Option.some.inj (g1.symm.trans d1)
  subst ex
  have w47 : mA wz 47 t = nI l := by rw [zB 47 (by decide)]; exact d5
  have w48 : mA wz 48 t = nI a := by rw [zB 48 (by decide), g6, ha']
  have w49 : mA wz 49 t = nI (20 + o) := by rw [zB 49 (by decide), t49, hs']
  have w50 : mA wz 50 t = nI (lqS S o j) := by rw [zB 50 (by decide)]; exact t50
  have w51 : mA wz 51 t = n := by rw [(kx.2.1 t ht).1, hn]
  obtain ⟨v0, hv0⟩ : ∃ v0, v0 = mSA 38 (lqS S o j) (mA wz 38 (lqS S o j) + n) (mSA 20 (12 * a + l) (mA wz 20 (12 * a + l) - n) wz) := ⟨_, rfl⟩
  have v0A : ∀ f, f ≠ 20 ∧ f ≠ 38 → mA v0 f = mA wz f := fun f hf => by rw [hv0, fBA hf.2, fBA hf.1]
  have v0I : mI v0 = mI wz := by rw [hv0]; rfl
  have run := k_195k (w := wz) (q := lqS S o j) (n := n) (show t < 60 by omega) ha (show l < 12 by omega) hq24 w46 w48 w50 w51
  rw [← hv0] at run
  have kx0 : KX S v0 p0' st0' q0 := kx.wr (fun f hf => v0A f (by omega)) (by rw [v0I])
  obtain ⟨u, u1, u2, u3, u4, u5, u6, u7⟩ := h.kMoves (x0 := x0') (t := t) (a := a) (b := 20 + o) (l := l) (n := n) kx0 (by rw [v0A 53 (by decide), zB 53 (by decide)]) hx0 ht0 (by rw [v0A 48 (by decide)]; exact w48) (by rw [v0A 47 (by decide)]; exact w47) (by rw [v0A 49 (by decide)]; exact w49) (by rw [v0A 51 (by decide)]; exact w51) (by omega) (by omega) (by omega) n
  have u2' := u2.cg (p' := fun y => if y = x0' then 0 else p0 y) (st' := fun s => if s = t then 2 else st0 s) (fun y _ _ => by
    by_cases e : y = x0'
    · rw [if_pos e, if_pos e]
    · rw [if_neg e, if_neg e]; exact kp y e) (fun s _ => by
    by_cases e : s = t
    · rw [if_pos e, if_pos e]
    · rw [if_neg e, if_neg e]; exact ks s e) h.rowN
  have TA : ∀ f, f ≠ 1005 ∧ f ≠ 1118 ∧ f ≠ 403 → zA T f = zA T1 f := fun f hf => by rw [hT, fAA hf.2.2, fAA hf.2.1, fAA hf.1, drS_A]
  have T5 : ∀ q, zA T 1005 q = if q = t then 2 else zA T1 1005 q := fun q => by rw [hT, fAA (by decide), fAA (by decide), sAA, drS_A]
  have TAS : ∀ f, f ≠ 7 ∧ f ≠ 204 ∧ f ≠ 402 ∧ f ≠ 403 ∧ f ≠ 1004 ∧ f ≠ 1005 ∧ f ≠ 1118 → zA T f = zA S f := fun f hf => by
    rw [TA f ⟨hf.2.2.2.2.2.1, hf.2.2.2.2.2.2, hf.2.2.2.1⟩, e3.1 f ⟨hf.2.1, hf.2.2.1, hf.2.2.2.2.1, hf.2.2.2.2.2.1⟩, e2.1 f hf.1, zA1 f ⟨hf.1, hf.2.1, hf.2.2.1, hf.2.2.2.2.1, hf.2.2.2.2.2.1⟩]
  have T403 : ∀ q, zA T 403 q = if q = j then zA S 403 q + n else zA S 403 q := fun q => by
    have e9 : zA (pA 1118 0 (zA Z 1118 0 + n) (pA 1005 t 2 (drS T1))) 403 = zA S 403 := by rw [fAA (by decide), fAA (by decide), drS_A, e3.1 403 (by decide), e2.1 403 (by decide), zA1 403 (by decide)]
    rw [hT, sAA, e9, zA1 403 (by decide)]
    by_cases e : q = j
    · rw [if_pos e, if_pos e, e]
    · rw [if_neg e, if_neg e]
  have TO : zO T = zO S := by
    have e : zO T = zO T1 := by rw [hT]; rfl
    rw [e, e3.2.1, e2.2.1, zO1]
  have TLS : ∀ f, f ≠ 1107 → zL T f = zL S f := fun f hf => by
    have e : zL T = zL (drS T1) := by rw [hT]; rfl
    rw [e, drS_SF.2.2.1 f hf, e4, e2.2.2.1, zL1 f hf]
  have TNe : zN T = zN A := by
    have e : zN T = zN T1 := by rw [hT]; rfl
    rw [e, e3.2.2.2.2.2.2]
  have TN : ∀ f, f ≠ 60 ∧ f ≠ 61 ∧ f ≠ 62 → zN T f = zN S f := fun f hf => by
    rw [TNe, e2.2.2.2.2.2.1 f hf, zN1, wN f hf]
  have pe := h.pfE pf0 hx0 ht0 (Or.inl rfl : (2 : Int32) = 2 ∨ (2 : Int32) = 3)
  have c0s : (∀ j, zC T 0 j = zC S 0 j + (dd none (some a) l x j + dd (some a) (some (20 + o)) l n j)) → ∀ o' l', o' < 8 → l' < 12 → zC T 0 (12 * (20 + o') + l') = if o' = o ∧ l' = l then zC S 0 (12 * (20 + o') + l') + n else zC S 0 (12 * (20 + o') + l') := fun c0 o' l' _ hl' => by
    rw [c0, dd_p (by omega), if_neg (show ¬ 12 * (20 + o') + l' = 12 * a + l by omega), Int32.zero_add, dd_s, if_neg (show ¬ 12 * (20 + o') + l' = 12 * a + l by omega), Int32.zero_add]
    by_cases e : o' = o ∧ l' = l
    · rw [if_pos e, if_pos (show 12 * (20 + o') + l' = 12 * (20 + o) + l by omega)]
    · rw [if_neg e, if_neg (show ¬ 12 * (20 + o') + l' = 12 * (20 + o) + l by omega), Int32.add_zero]
  have hbk : (∀ j, zC T 0 j = zC S 0 j + (dd none (some a) l x j + dd (some a) (some (20 + o)) l n j)) → hL T = ((hL S).filter fun y => decide (0 < (if y = x0' then (0 : Int32) else p0 y))) → (∀ y, y ∈ hL S → zA T 204 y = if y = x0' then 0 else p0 y) → ∀ a' l', a' < 19 → l' < 12 → sz (hL T) (fun y => (hpc T a' l' y).toInt) ≤ (zC T 0 (12 * a' + l')).toInt := fun c0 H1 V1 a' l' ha1 hl' => by
    by_cases e : a' = a ∧ l' = l
    · rw [e.1, e.2]
      have q := hbk0 T H1 V1 (TAS 202 (by decide)) (by rw [TO])
      have cc : zC T 0 (12 * a + l) = zC S1 0 (12 * a + l) - n := by
        rw [c0, w0, dd_s, if_pos rfl, if_neg (show ¬ 12 * a + l = 12 * (20 + o) + l by omega), Int32.add_zero, ← Int32.add_assoc, ← Int32.sub_eq_add_neg]
      have tv := tI_of hv
      have t2 := tI_of tn
      rw [cc, sub_toInt (by omega) (by omega)]; omega
    · refine h.hbk3 (p := fun y => if y = x0' then 0 else p0 y) pe.1 H1 (fun y hy _ => V1 y hy) (TAS 202 (by decide)) TO ha1 hl' ?_
      rw [c0, dd_p (by omega), if_neg (show ¬ 12 * a' + l' = 12 * a + l by omega), Int32.zero_add, dd_s, if_neg (show ¬ 12 * a' + l' = 12 * a + l by omega), Int32.zero_add, if_neg (show ¬ 12 * a' + l' = 12 * (20 + o) + l by omega), Int32.add_zero]
      exact Int.le_refl _
  have m38 : ∀ q, mA u 38 q = if q = lqS S o j then mA w 38 q + n else mA w 38 q := fun q => by
    rw [u7 38 (by decide), hv0, sBA, fBA (by decide), zB 38 (by decide)]
    by_cases e : q = lqS S o j
    · rw [if_pos e, if_pos e, e]
    · rw [if_neg e, if_neg e]
  have uB : ∀ f, f ≠ 19 ∧ f ≠ 20 ∧ f ≠ 21 ∧ f ≠ 38 ∧ f ≠ 40 ∧ f ≠ 41 ∧ f ≠ 42 ∧ f ≠ 43 ∧ f ≠ 44 ∧ f ≠ 51 ∧ f ≠ 52 ∧ f ≠ 58 ∧ f ≠ 59 → mA u f = mA w f := fun f hf => by
    rw [u7 f (by omega), v0A f (by omega), zB f (by omega)]
  have hli : hL T = ((hL S).filter fun y => decide (0 < (if y = x0' then (0 : Int32) else p0 y))) → (∀ y, y ∈ hL S → zA T 204 y = if y = x0' then 0 else p0 y) → CH T → g_li T u := fun H1 V1 C1 =>
    h.pickLi (p1 := fun y => if y = x0' then 0 else p0 y) hx0 hj ho7 hjm pe.1 (if_pos rfl) H1 V1 (TAS 401 (by decide)) T403 TO (TLS 704 (by decide)) ⟨TN 7 (by decide), TN 4 (by decide)⟩ (fun f hf => uB f (by omega)) m38 C1 tn hnle
  have hst : (∀ j, zC T 0 j = zC S 0 j + (dd none (some a) l x j + dd (some a) (some (20 + o)) l n j)) → g_st T u := fun c0 =>
    h.pickSt ho7 hjm h705 d4 (c0s c0) (TAS 705 (by decide)) T403 (TLS 704 (by decide)) ⟨TN 7 (by decide), TN 5 (by decide)⟩ tn hB9
  obtain ⟨k', k1', k2'⟩ := h.doG (T := T) (u := u) pf0 hx0 ht0 d4 ha (show a < 19 by omega) (show 20 + o < 28 by omega) (Or.inr (by omega)) hW hWk hWm hk hZ e2 tn hn1 hv (fun e => absurd e (by omega)) hB9 e3 e4 e5 e6 e7 e8 TA T5 (by rw [hT]; rfl) (by rw [hT]; rfl) (by rw [hT]; rfl) (by rw [hT]; rfl) (by rw [hT]; rfl) u2' (fun q hq' => by rw [u3, v0A 19 (by decide), z19 q hq', Int32.add_assoc]) (fun q hq' => by
    rw [u7 20 (by decide), hv0, fBA (by decide), sBA, z20, hrl, dd_s, if_neg (show ¬ q = 12 * (20 + o) + l by omega), Int32.add_zero]
    by_cases e : q = 12 * a + l
    · rw [if_pos e, if_pos e, e, Int32.sub_eq_add_neg]
    · rw [if_neg e, if_neg e, Int32.add_zero]) (fun p l2 hp hl2 => by
    rw [u4 p l2 hp hl2, v0A 21 (by decide), z21 p l2 hp hl2]
    by_cases c1 : l2 = l ∧ ¬ n = 0 ∧ (p = a ∨ p = 20 + o)
    · rw [if_pos c1, if_pos ⟨c1.1, Or.inr c1.2⟩]
    · rw [if_neg c1]
      by_cases c2 : l2 = l ∧ ¬ x = 0 ∧ p = a
      · rw [if_pos c2, if_pos ⟨c2.1, Or.inl c2.2⟩]
      · rw [if_neg c2, if_neg]
        rintro ⟨r1, r2 | r2⟩
        · exact c2 ⟨r1, r2⟩
        · exact c1 ⟨r1, r2⟩) (by
    rw [u5, v0I, zI 2 (by decide), h.sc.2.1, hT, fAA (by decide), sAA, if_pos rfl, zA1 1118 (by decide)]) (fun f hf => by rw [u6 f ⟨hf.2.1, hf.2.2⟩, v0I, zI f hf.2.2]) uB hbk hli hst
  refine ⟨T, u, k', fin, by rw [run, u1]; rfl, k2', k1', ?_, TN, ?_, TAS 705 (by decide), fun q => ⟨by rw [uB 57 (by decide)], by rw [TAS 803 (by decide)]⟩, by rw [u6 0 (by decide), v0I, zI 0 (by decide)], fun q => by rw [T5, e7], TAS 1006 (by decide)⟩
  · have e : zP T = zP T1 := by rw [hT, tPA, tPA, tPA, drS_P]
    rw [e, e3.2.2.2.1, e2.2.2.2.1, zP1]
  · have c2 := e2.2.2.2.2.2.2.1
    refine wc.tr ?_
    unfold cst at c2 ⊢
    rw [zN1] at c2
    rw [TNe]; exact c2
end
