/-! a REFILL is loaded, with less or all -/
section
variable {B k : Nat} {S T S1 Z A T1 U : Ss} {w v u w0 : MS}
theorem KX.cg {p st q p' st' : Nat → Int32} (h : KX S v p st q) (e1 : ∀ x, x ∈ hL S → hasO S x = true → p x = p' x) (e2 : ∀ t, t < zN S 10 → st t = st' t) (hr : ∀ r t, r < 3 → t ∈ rowS S r → t < zN S 10) : KX S v p' st' q := by
  obtain ⟨h1, h2, h3⟩ := h
  have ef : ((hL S).filter (hasO S)).filter (fun x => decide (0 < p x)) = ((hL S).filter (hasO S)).filter fun x => decide (0 < p' x) := List.filter_congr fun x hx => by
    obtain ⟨m1, m2⟩ := List.mem_filter.mp hx
    rw [e1 x m1 m2]
  refine ⟨?_, fun t ht => by rw [← e2 t ht]; exact h2 t ht, h3.cg fun r hr' => List.filter_congr fun t ht => by rw [e2 t (hr r t hr' ht)]⟩
  rw [← ef]
  exact h1.cg fun x hx => by
    obtain ⟨m1, m2⟩ := List.mem_filter.mp (List.mem_filter.mp hx).1
    exact e1 x m1 m2
theorem Rel.rowN (h : Rel B k S w) : ∀ r t, r < 3 → t ∈ rowS S r → t < zN S 10 := fun r t hr ht => ((h.ro.1 r hr).2.2.2.2.2.1 t (List.mem_filter.mp ht).1).1
theorem Rel.shF (h : Rel B k S w) (hk : k < 1024) {s l : Nat} (hs : s < 18) (hl : l < zN S 5) {f0 : Option Nat} (hf0 : ∀ x, f0 = some x → x ∈ hL S) {x : Int32} (hx : x = zC S 2 (12 * s + l) - zC S 0 (12 * s + l)) (x0 : ¬ x = 0) (e1' : WR S S1 none (some s) l x k) (e3 : CO U) (e4 : SF S1 U) (e5 : CCv S U (cutL S s l f0 9) (zC S 2 (12 * s + l))) (t2 : KX S u (fcut (zA S 204) (cutL S s l f0 9) (zC S 2 (12 * s + l))) (zA U 1005) (zA U 1004)) (v19 : ∀ j, j < 336 → mA u 19 j = mA w 19 j + if j = 12 * s + l then x else 0) (v20 : mA u 20 = mA w 20) (v21 : ∀ j, mA u 21 j = if j = 12 * s + l then -1 else mA w 21 j) (vI : ∀ f, f ≠ 0 ∧ f ≠ 39 → mI u f = mI w f) (vB : ∀ f, f ≠ 19 ∧ f ≠ 21 ∧ f ≠ 40 ∧ f ≠ 41 ∧ f ≠ 42 ∧ f ≠ 43 ∧ f ≠ 44 ∧ f ≠ 51 ∧ f ≠ 52 ∧ f ≠ 58 ∧ f ≠ 59 → mA u f = mA w f) : ∃ k', k' ≤ k + 1 ∧ Rel B k' (drS U) u := by
  have h12 := h.lo.1
  have e1 := e1'
  obtain ⟨wA, wO, wL, wP, wC, wN, wc, w0, -⟩ := e1
  have hj : 12 * s + l < 240 := by omega
  have hj2 : 12 * s + l < 336 := by omega
  have tb := tI_of (h.nn.2.1 _ hj2)
  have tt := tI_of (h.nn.2.2 _ hj)
  have B8 := h.nn.1
  have xt : x.toInt = (zC S 2 (12 * s + l)).toInt - (zC S 0 (12 * s + l)).toInt := by rw [hx]; exact sub_toInt (by omega) (by omega)
  have hsub : ∀ y, y ∈ cutL S s l f0 9 → y ∈ hL S := fun y hy => by
    rcases cutL_m 9 y hy with e | e
    · exact hf0 y e
    · exact e.1
  have pf := h.pfC e5 hsub tt.1
  have UA : ∀ f, f ≠ 7 ∧ f ≠ 204 ∧ f ≠ 402 ∧ f ≠ 1004 ∧ f ≠ 1005 → zA (drS U) f = zA S f := fun f hf => by rw [drS_A, e4.1 f hf.2, wA f hf.1]
  have TO : zO (drS U) = zO S := e4.2.1.trans wO
  have TL : ∀ f, f ≠ 1107 → zL (drS U) f = zL S f := fun f hf => by rw [drS_SF.2.2.1 f hf, e4.2.2.1 f hf, wL]
  have UC : ∀ f, f ≠ 3 ∧ f ≠ 4 → zC (drS U) f = zC S1 f := fun f hf => e4.2.2.2.2.1 f hf
  have UM : zM (drS U) = zM S1 := e4.2.2.2.2.2.1
  have UN : zN (drS U) = zN S1 := e4.2.2.2.2.2.2
  have eU : hL U = hL S := by unfold hL; rw [e5.1]
  have TH : hL (drS U) = (hL S).filter fun y => decide (0 < fcut (zA S 204) (cutL S s l f0 9) (zC S 2 (12 * s + l)) y) := by
    rw [drS_L, eU]
    refine List.filter_congr fun y _ => by rw [e5.2.1]
  have T4 : ∀ y, y ∈ hL S → ¬ fcut (zA S 204) (cutL S s l f0 9) (zC S 2 (12 * s + l)) y = 0 → zA (drS U) 204 y = fcut (zA S 204) (cutL S s l f0 9) (zC S 2 (12 * s + l)) y := fun y _ _ => by rw [drS_A]; exact e5.2.1 y
  have coT : CO (drS U) := e3.drop
  have c0 : ∀ j, zC (drS U) 0 j = zC S 0 j + if j = 12 * s + l then x else 0 := fun j => by
    rw [UC 0 (by decide), w0, dd_p (by omega)]
  have cs : zC (drS U) 0 (12 * s + l) = zC S 2 (12 * s + l) := by
    rw [c0, if_pos rfl]
    apply Int32.toInt_inj.mp
    rw [add_toInt (by omega) (by omega)]; omega
  obtain ⟨k', k1, g1, g2, g3, g4, g5, g6⟩ := h.wrB (T := drS U) (v := u) hk hs hl x0 e1' (by rw [← UC 0 (by decide), cs]; exact h.nn.2.2 _ hj) (fun f hf => UC f (by omega)) UM (by rw [drS_A]; exact e4.1 7 (by decide)) (fun f hf => UA f (by omega)) TO (TL 704 (by decide)) (fun f hf => by rw [UN, wN f (by omega)]) (by rw [UN]) v19 v20 v21
  have hli : g_li (drS U) u := h.liF (T := drS U) pf.1 TH T4 (fun f hf => UA f (by omega)) TO (TL 704 (by decide)) ⟨by rw [UN, wN 7 (by decide)], by rw [UN, wN 4 (by decide)]⟩ (fun f hf => vB f (by omega)) coT.2.2.2.2.2
  have hbk : ∀ a l', a < 19 → l' < 12 → sz (hL (drS U)) (fun y => (hpc (drS U) a l' y).toInt) ≤ (zC (drS U) 0 (12 * a + l')).toInt := fun a l' ha hl' => by
    by_cases e : a = s ∧ l' = l
    · rw [e.1, e.2, cs]
      have nd := cutL_nd (s := s) (l := l) (f0 := f0) h.ho.1 9
      have q1 := hbk2 (T := drS U) (S := S) (s := s) (l := l) h.ho.1 TH T4 (UA 202 (by decide)) (by rw [TO]) (cutL_all h (f0 := f0)) (fun y hy => (tI_of (pf.1 y (hsub y hy)).1).1)
      have q2 := cut_s (pc := zA S 204) (cutL S s l f0 9) (zC S 2 (12 * s + l)) (fun y hy => (h.co.2.2.2.2.1 y (hsub y hy)).2) tt.1 nd
      have q3 := cut_b (pc := zA S 204) (cutL S s l f0 9) (zC S 2 (12 * s + l)) (fun y hy => (h.co.2.2.2.2.1 y (hsub y hy)).2) tt.1
      omega
    · refine h.hbk3 pf.1 TH T4 (UA 202 (by decide)) TO ha hl' ?_
      rw [c0, if_neg (by omega), Int32.add_zero]
      exact Int.le_refl _
  refine ⟨k', k1, h.fin pf t2 (fun f hf => UA f ⟨hf.1, hf.2.1, hf.2.2.1, hf.2.2.2.2.1, hf.2.2.2.2.2.1⟩) TO TL (fun f hf => by rw [UC f ⟨hf.2.2.2.1, hf.2.2.2.2.1⟩, wC f ⟨hf.1, hf.2.1, hf.2.2.2.2.2⟩]) (fun f hf => by rw [UN, wN f hf]) (fun f hf => vI f ⟨hf.1, hf.2.2⟩) (by rw [vI 2 (by decide), UA 1118 (by decide)]; exact h.sc.2.1) (fun f hf => vB f (by omega)) TH T4 (fun t _ => ⟨by rw [drS_A], by rw [drS_A]⟩) coT.2.2.2.2.2 hbk hli g1 g2 g3 g4 g5 g6⟩
/-- what the reference does at a slot where there is less -/
theorem Rel.kLess (h : Rel B k S w) (hk : k < 1024) {x0 t s l : Nat} (hs : s < 18) (hl : l < zN S 5) (hx0 : x0 ∈ hL S) (ht0 : zO S 205 x0 = some t) (hp : zA S 202 x0 = nI s) (hlo : zO S 203 x0 = some l) (hlt : zC S 2 (12 * s + l) < zA S 204 x0) : ∃ S1 U v1 u, WR S S1 none (some s) l (zC S 2 (12 * s + l) - zC S 0 (12 * s + l)) k ∧ (f_X11_shorten (nI s) l (some x0)).1 S = some ((), drS U) ∧ CO U ∧ SF S1 U ∧ CCv S U (cutL S s l (some x0) 9) (zC S 2 (12 * s + l)) ∧ g_X12_shorts (nI s) (nI l) (zC S 2 (12 * s + l)) (nI t) (mSA 51 t (zC S 2 (12 * s + l)) w) = some ((), v1) ∧ g_X12_tidies v1 = some ((), u) ∧ KX S u (fun y => if y = x0 then zA S 204 y else fcut (zA S 204) (cutL S s l (some x0) 9) (zC S 2 (12 * s + l)) y) (fun t' => if t' = t then zA S 1005 t' else zA U 1005 t') (zA U 1004) ∧ ¬ zC S 2 (12 * s + l) - zC S 0 (12 * s + l) = 0 ∧ (∀ j, mA u 19 j = mA w 19 j + if j = 12 * s + l then zC S 2 (12 * s + l) - zC S 0 (12 * s + l) else 0) ∧ mA u 20 = mA w 20 ∧ (∀ j, mA u 21 j = if j = 12 * s + l then -1 else mA w 21 j) ∧ (∀ f, f ≠ 39 → mI u f = mI w f) ∧ (∀ f, f ≠ 19 ∧ f ≠ 21 ∧ f ≠ 40 ∧ f ≠ 41 ∧ f ≠ 42 ∧ f ≠ 43 ∧ f ≠ 44 ∧ f ≠ 51 ∧ f ≠ 52 ∧ f ≠ 58 ∧ f ≠ 59 → mA u f = mA w f) ∧ zA U 1004 t = zC S 2 (12 * s + l) ∧ fcut (zA S 204) (cutL S s l (some x0) 9) (zC S 2 (12 * s + l)) x0 = zC S 2 (12 * s + l) ∧ zA U 1005 t = if zC S 2 (12 * s + l) = 0 then 3 else zA S 1005 t := by
  have h12 := h.lo.1
  have hj : 12 * s + l < 240 := by omega
  have hj2 : 12 * s + l < 336 := by omega
  obtain ⟨S1, U, e1, e2, e3, e4, e5⟩ := h.eShort hk hs hl (some x0) (fun x hx => by cases hx; exact hx0)
  obtain ⟨r, hr⟩ : ∃ r, r = zC S 2 (12 * s + l) := ⟨_, rfl⟩
  obtain ⟨x, hx⟩ : ∃ x, x = r - zC S 0 (12 * s + l) := ⟨_, rfl⟩
  rw [← hr] at hlt e5
  have e1' := e1
  rw [← hr, ← hx] at e1'
  have tb := tI_of (h.nn.2.1 _ hj2)
  have tt : 0 ≤ r.toInt := by rw [hr]; exact (tI_of (h.nn.2.2 _ hj)).1
  have tt2 : r.toInt ≤ B := by rw [hr]; exact (tI_of (h.nn.2.2 _ hj)).2
  have B8 := h.nn.1
  have nb := h.hn1 hx0 (show s < 19 by omega) (show l < 12 by omega) hp hlo
  have lt := Int32.lt_iff_toInt_lt.mp hlt
  have xt : x.toInt = r.toInt - (zC S 0 (12 * s + l)).toInt := by rw [hx]; exact sub_toInt (by omega) (by omega)
  have xn0 : ¬ x = 0 := fun q => by
    rw [q] at xt
    have e0 : (0 : Int32).toInt = 0 := rfl
    omega
  have emn : mn (zA S 204 x0) r = r := if_pos hlt
  obtain ⟨w1, hw1⟩ : ∃ w1, w1 = mSA 51 t r w := ⟨_, rfl⟩
  have w1A : ∀ f, f ≠ 51 → mA w1 f = mA w f := fun f hf => by rw [hw1, fBA hf]
  have w1I : mI w1 = mI w := by rw [hw1]; rfl
  have w151 : ∀ j, mA w1 51 j = if j = t then r else mA w 51 j := fun j => by rw [hw1, sBA]
  have b19 : mA w1 19 (12 * s + l) = zC S 0 (12 * s + l) := by rw [w1A 19 (by decide)]; exact (h.bk.1 _ hj2).symm
  have ex : r - mA w1 19 (12 * s + l) = x := by rw [b19, hx]
  obtain ⟨w2, hw2⟩ : ∃ w2, w2 = bkV w1 s l x := ⟨_, rfl⟩
  have w2A : ∀ f, f ≠ 19 ∧ f ≠ 21 → mA w2 f = mA w1 f := fun f hf => by rw [hw2, bkV_A hf]
  have kb : KB S w w2 (some x0) := by
    refine ⟨fun y t' hy hn ht' => ?_, fun f hf => ?_, fun f hf => ?_⟩
    · obtain ⟨d1, -, -, d4⟩ := (h.ho.2.1 y hy).2.2.2.2.2 t' ht'
      have nt : ¬ t' = t := fun e => hn (by rw [h.co.uq hy hx0 (e ▸ ht') ht0])
      rw [w2A 51 (by decide), w151, if_neg nt, (h.ta.2.2.2 t' d1).2.2.2.1]; exact d4
    · rw [w2A f (by omega), w1A f (by omega)]
    · rw [hw2, bkV_I, w1I]
  obtain ⟨v1, s1, s2⟩ := h.kShorts (f0 := some x0) (x4 := nI t) (Or.inr ⟨x0, t, rfl, hx0, ht0, rfl⟩) hs hl (w1 := w1) (r := r) (fun y t0 q q2 => by
    cases q
    have : t = t0 := Option.some.inj (ht0.symm.trans q2)
    rw [w151, if_pos this.symm, emn]) (by rw [ex, ← hw2]; exact kb)
  rw [ex, ← hw2] at s2
  have bt : ∀ t', (some x0).bind (zO S 205) = some t' ↔ t' = t := fun t' => by
    show zO S 205 x0 = some t' ↔ _
    rw [ht0]
    exact ⟨fun q => (Option.some.inj q).symm, fun q => by rw [q]⟩
  obtain ⟨u, t1, t2, t3, t4⟩ := h.kiT kb (T := U) (r := r) (fun t' ht' hn => by rw [w2A 51 (by decide), w151, if_neg (fun q => hn ((bt t').mpr q))]) (fun y t0 q q2 => by
    cases q
    have : t = t0 := Option.some.inj (ht0.symm.trans q2)
    rw [w2A 51 (by decide), w151, if_pos this.symm, emn]) s2 e5 (fun y hy => by cases hy; exact hx0)
  have fx0 := fcut_x0 (S := S) (s := s) (l := l) (x0 := x0) (r := r) (pc := zA S 204) 9
  rw [emn] at fx0
  have hx0L : x0 ∈ cutL S s l (some x0) 9 := by
    obtain ⟨tl, e9⟩ := cutL_hd (S := S) (s := s) (l := l) (x0 := x0) 9
    rw [e9]; exact List.mem_cons_self ..
  obtain ⟨c1, c2⟩ := e5.2.2.1 x0 t hx0L ht0
  rw [fx0] at c1 c2
  rw [← hr, ← hx]
  refine ⟨S1, U, v1, u, e1', e2, e3, e4, e5, by rw [← hw1]; exact s1, t1, t2.cg (fun y _ _ => ?_) (fun t' _ => ?_) h.rowN, xn0, fun j => ?_, ?_, fun j => ?_, fun f hf => by rw [t3 f hf, hw2, bkV_I, w1I], fun f hf => by rw [t4 f ⟨hf.2.2.1, hf.2.2.2.1, hf.2.2.2.2.1, hf.2.2.2.2.2.1, hf.2.2.2.2.2.2.1, hf.2.2.2.2.2.2.2⟩, w2A f ⟨hf.1, hf.2.1⟩, w1A f hf.2.2.2.2.2.2.2.1], c1, fx0, c2⟩
  · by_cases e : y = x0
    · rw [if_pos e, if_pos (by rw [e])]
    · rw [if_neg e, if_neg (fun q => e (Option.some.inj q))]
  · by_cases e : t' = t
    · rw [if_pos e, if_pos ((bt t').mpr e)]
    · rw [if_neg e, if_neg (fun q => e ((bt t').mp q))]
  · rw [t4 19 (by decide), hw2, bkV_19, w1A 19 (by decide)]
  · rw [t4 20 (by decide), w2A 20 (by decide), w1A 20 (by decide)]
  · rw [t4 21 (by decide), hw2, bkV_21, w1A 21 (by decide)]
    by_cases e : j = 12 * s + l
    · rw [if_pos e, if_pos ⟨hs, xn0, e⟩]
    · rw [if_neg e, if_neg (fun q => e q.2.2)]
end
