/-! count -/
section
variable {B k : Nat} {S T S1 U : Ss} {w v u w0 : MS}
theorem Rel.wrB (h : Rel B k S w) (hk : k < 1024) {s l : Nat} (hs : s < 18) (hl : l < zN S 5) {x : Int32} (hx : ¬ x = 0) (hW : WR S S1 none (some s) l x k) (hv : tI (zC S1 0 (12 * s + l)) 0 B) (hC : ∀ f, f = 0 ∨ f = 1 ∨ f = 2 ∨ f = 5 → zC T f = zC S1 f) (hM : zM T = zM S1) (hA7 : zA T 7 = zA S1 7) (hA : ∀ f, f = 705 ∨ f = 403 → zA T f = zA S f) (hO1 : zO T = zO S) (hL7 : zL T 704 = zL S 704) (hN : ∀ f, f = 5 ∨ f = 7 → zN T f = zN S f) (hN6 : zN T 60 = zN S1 60) (v19 : ∀ j, j < 336 → mA v 19 j = mA w 19 j + if j = 12 * s + l then x else 0) (v20 : mA v 20 = mA w 20) (v21 : ∀ j, mA v 21 j = if j = 12 * s + l then -1 else mA w 21 j) : ∃ k', k' ≤ k + 1 ∧ g_bk T v ∧ g_nn B T ∧ g_tr T v ∧ g_db T v ∧ g_mv T k' ∧ g_st T v := by
  have h12 := h.lo.1
  obtain ⟨wA, wO, wL, wP, wC, wN, wc, w0, w1, w5, k', wk, wm, wv⟩ := hW
  have hd : ∀ j, dd none (some s) l x j = if j = 12 * s + l then x else 0 := fun j => dd_p (by omega)
  have c0 : ∀ j, zC T 0 j = zC S 0 j + dd none (some s) l x j := fun j => by rw [hC 0 (by decide), w0]
  have c00 : ∀ j, ¬ j = 12 * s + l → zC T 0 j = zC S 0 j := fun j hj => by rw [c0, hd, if_neg hj, Int32.add_zero]
  have c2 : zC T 2 = zC S 2 := by rw [hC 2 (by decide), wC 2 (by decide)]
  refine ⟨k', wk, bk_of h hl (d := dd none (some s) l x) (fun j _ => c0 j) (fun p i hi => by rw [hC 1 (by decide), w1 p i hi]) (fun p l' h1 h2 => by
    unfold dd; rw [dl_ne (by omega) h1 h2, dl_ne (by omega) h1 h2]; rfl) (fun j hj => by rw [v19 j hj, hd]) (hN 5 (by decide)) (by rw [hO1]), ?_, ?_, ?_, mv_of h (d := dd none (some s) l x) (by omega) (by
    unfold mvA at wm ⊢; rw [hA7, hN6]; exact wm) (fun p l' hp hl' => by rw [hM]; exact wv p l' hp hl') (fun j _ => c0 j), ?_⟩
  · obtain ⟨n1, n2, n3⟩ := h.nn
    refine ⟨n1, fun j hj => ?_, fun j hj => by rw [c2]; exact n3 j hj⟩
    by_cases e : j = 12 * s + l
    · rw [hC 0 (by decide), e]; exact hv
    · rw [c00 j e]; exact n2 j hj
  · obtain ⟨r1, r2⟩ := h.tr
    exact ⟨fun j hj => by rw [c2, v20]; exact r1 j hj, fun j h1 h2 => by rw [c2, c00 j (by omega)]; exact r2 j h1 h2⟩
  · refine db_of h (l := l) (P := fun p => p = s) fun p l' hp hl' => ⟨fun r => ⟨?_, ?_⟩, fun r => ⟨?_, ?_⟩⟩
    · rw [hC 5 (by decide), w5 p l' hp hl', if_pos ⟨hx, r.2, Or.inr (by rw [r.1])⟩]
    · rw [v21, if_pos (by rw [r.1, r.2])]
    · rw [hC 5 (by decide), w5 p l' hp hl', if_neg]
      rintro ⟨-, r1, r2 | r2⟩
      · cases r2
      · exact r ⟨(Option.some.inj r2).symm, r1⟩
    · rw [v21, if_neg (fun e => r (by constructor <;> omega))]
  · obtain ⟨s1, s2⟩ := h.st
    have e : ∀ o l', zC T 0 (12 * (20 + o) + l') = zC S 0 (12 * (20 + o) + l') := fun o l' => c00 _ (by omega)
    unfold g_st
    simp only [e]
    rw [hN 7 (by decide), hA 705 (by decide), hN 5 (by decide), hL7, hA 403 (by decide)]
    exact ⟨s1, s2⟩
theorem Rel.cutT (h : Rel B k S w) {xs : List Nat} {r : Int32} (hc : CCv S T xs r) (hs : ∀ x, x ∈ xs → x ∈ hL S) (t : Nat) (ht : t < zN S 10) : (zA T 1005 t = 2 ↔ zA S 1005 t = 2) := by
  obtain ⟨c1, c2, c3, c4⟩ := hc
  by_cases e : ∃ y, y ∈ xs ∧ zO S 205 y = some t
  · obtain ⟨y, y1, y2⟩ := e
    obtain ⟨d1, d2⟩ := c3 y t y1 y2
    obtain ⟨-, -, d3, -⟩ := (h.ho.2.1 y (hs y y1)).2.2.2.2.2 t y2
    have n2 : ¬ zA S 1005 t = 2 := by rcases d3 with q | q <;> (rw [q]; decide)
    rw [d2]; split
    · exact ⟨fun r => absurd r (by decide), fun r => absurd r n2⟩
    · exact Iff.rfl
  · rw [(c4 t e).2]
theorem Rel.cutT2 (h : Rel B k S w) {xs : List Nat} {r : Int32} (hc : CCv S T xs r) (hs : ∀ x, x ∈ xs → x ∈ hL S) (h6 : zA T 1006 = zA S 1006) : cT T (zN S 10) = cT S (zN S 10) := by
  refine cT_lt _ fun t ht => ?_
  have e := h.cutT hc hs t ht
  rw [h6]
  by_cases q : zA S 1005 t = 2
  · rw [if_pos q, if_pos (e.mpr q)]
  · rw [if_neg q, if_neg (fun r => q (e.mp r))]
/-- how much is held stays below the book, where nothing but one place changes -/
theorem Rel.hbk3 (h : Rel B k S w) {p : Nat → Int32} (hp : ∀ x, x ∈ hL S → tI (p x) 0 99 ∧ (p x).toInt ≤ (zA S 204 x).toInt) (t1 : hL T = (hL S).filter fun x => decide (0 < p x)) (t2 : ∀ x, x ∈ hL S → ¬ p x = 0 → zA T 204 x = p x) (hA2 : zA T 202 = zA S 202) (hO1 : zO T = zO S) {a l : Nat} (ha : a < 19) (hl : l < 12) (hC : (zC S 0 (12 * a + l)).toInt ≤ (zC T 0 (12 * a + l)).toInt) : sz (hL T) (fun x => (hpc T a l x).toInt) ≤ (zC T 0 (12 * a + l)).toInt := by
  have t1' : hL T = (hL S).filter fun x => decide (¬ p x = 0) := by
    rw [t1]
    refine List.filter_congr fun x hx => ?_
    rw [decide_eq_decide]; exact (pos_0 (tI_of (hp x hx).1).1).1
  have e1 := h.hbk t1' t2 hA2 (by rw [hO1]) hp a l
  have e2 := (h.hs.1 a l ha hl).2
  omega
theorem Rel.liF (h : Rel B k S w) {p : Nat → Int32} (hp : ∀ x, x ∈ hL S → tI (p x) 0 99 ∧ (p x).toInt ≤ (zA S 204 x).toInt) (t1 : hL T = (hL S).filter fun x => decide (0 < p x)) (t2 : ∀ x, x ∈ hL S → ¬ p x = 0 → zA T 204 x = p x) (hA : ∀ f, f = 401 ∨ f = 403 → zA T f = zA S f) (hO1 : zO T = zO S) (hL7 : zL T 704 = zL S 704) (hN : zN T 7 = zN S 7 ∧ zN T 4 = zN S 4) (hB : ∀ k, k = 31 ∨ k = 36 ∨ k = 37 ∨ k = 38 → mA v k = mA w k) (t4 : CH T) : g_li T v := by
  have t1' : hL T = (hL S).filter fun x => decide (¬ p x = 0) := by
    rw [t1]
    refine List.filter_congr fun x hx => ?_
    rw [decide_eq_decide]; exact (pos_0 (tI_of (hp x hx).1).1).1
  refine h.liOf hA (by rw [hO1]) hL7 hN hB fun j hj => ?_
  have := h.li_red (T := T) t1' t2 (by rw [hO1]) (fun j hj => t4.2.1 j (by rw [hN.2]; exact hj)) hp j hj
  exact ⟨this.1, this.2.2⟩
def cntW (S : Ss) (w : MS) (s l : Nat) : MS := mSA 21 (12 * s + l) (-1) (mSI 2 (zA S 1118 0 + 6) w)
theorem cw_A {s l f : Nat} (h : f ≠ 21) : mA (cntW S w s l) f = mA w f := by unfold cntW; rw [fBA h, tBI]
theorem cw_21 {s l j : Nat} : mA (cntW S w s l) 21 j = if j = 12 * s + l then -1 else mA w 21 j := by unfold cntW; rw [sBA, tBI]
theorem cw_I {s l f : Nat} (h : f ≠ 2) : mI (cntW S w s l) f = mI w f := by unfold cntW; rw [tIB, fII h]
theorem cw_2 {s l : Nat} : mI (cntW S w s l) 2 = zA S 1118 0 + 6 := by unfold cntW; rw [tIB, sII]
theorem Rel.cnt (h : Rel B k S w) (hk : k < 1024) {s l : Nat} (hs : s < 18) (hl : l < zN S 5) (hlt : (zC S 2 (12 * s + l)).toInt < (zC S 0 (12 * s + l)).toInt) : ∃ T v1 v k', (f_X11_shorten (nI s) l none).1 S = some ((), T) ∧ g_X12_shorts (nI s) (nI l) (zC S 2 (12 * s + l)) (-1) (cntW S w s l) = some ((), v1) ∧ g_X12_tidies v1 = some ((), v) ∧ k' ≤ k + 1 ∧ Rel B k' (pA 1118 0 (zA S 1118 0 + 6) T) v ∧ mI v 0 = mI w 0 ∧ zP T = zP S ∧ (∀ f, f ≠ 60 ∧ f ≠ 61 ∧ f ≠ 62 → zN T f = zN S f) ∧ cst S T ∧ cT T (zN S 10) = cT S (zN S 10) ∧ zA T 705 = zA S 705 ∧ zA T 1118 = zA S 1118 := by
  have h12 := h.lo.1
  obtain ⟨S1, U, e1, e2, e3, e4, e5⟩ := h.eShort hk hs hl none (fun x hx => by cases hx)
  have e1' := e1
  obtain ⟨wA, wO, wL, wP, wC, wN, wc, w0, -⟩ := e1
  have hj : 12 * s + l < 240 := by omega
  have hj2 : 12 * s + l < 336 := by omega
  obtain ⟨x, hx⟩ : ∃ x, x = zC S 2 (12 * s + l) - zC S 0 (12 * s + l) := ⟨_, rfl⟩
  have tb := tI_of (h.nn.2.1 _ hj2)
  have tt := tI_of (h.nn.2.2 _ hj)
  have B8 := h.nn.1
  have xt : x.toInt = (zC S 2 (12 * s + l)).toInt - (zC S 0 (12 * s + l)).toInt := by rw [hx]; exact sub_toInt (by omega) (by omega)
  have x0 : ¬ x = 0 := fun r => by
    rw [r] at xt
    have e0 : (0 : Int32).toInt = 0 := rfl
    omega
  have b19 : mA (cntW S w s l) 19 (12 * s + l) = zC S 0 (12 * s + l) := by rw [cw_A (by decide)]; exact (h.bk.1 _ hj2).symm
  have ex : zC S 2 (12 * s + l) - mA (cntW S w s l) 19 (12 * s + l) = x := by rw [b19, hx]
  rw [← hx] at e1'
  obtain ⟨w2, hw2⟩ : ∃ w2, w2 = bkV (cntW S w s l) s l x := ⟨_, rfl⟩
  have kb : KB S w w2 none := by
    refine ⟨fun y t hy _ ht => ?_, fun f hf => ?_, fun f hf => ?_⟩
    · obtain ⟨d1, -, -, d4⟩ := (h.ho.2.1 y hy).2.2.2.2.2 t ht
      rw [hw2, bkV_A (by decide), cw_A (by decide), (h.ta.2.2.2 t d1).2.2.2.1]; exact d4
    · rw [hw2, bkV_A (by omega), cw_A (by omega)]
    · rw [hw2, bkV_I, cw_I (by omega)]
  obtain ⟨v1, s1, s2⟩ := h.kShorts (f0 := none) (x4 := -1) (Or.inl ⟨rfl, rfl⟩) hs hl (w1 := cntW S w s l) (r := zC S 2 (12 * s + l)) (fun x0 t0 q => by cases q) (by rw [ex, ← hw2]; exact kb)
  rw [ex, ← hw2] at s2
  obtain ⟨v, t1, t2, t3, t4⟩ := h.kiT kb (fun t ht _ => by rw [hw2, bkV_A (by decide), cw_A (by decide)]) (fun x0 t0 q => by cases q) s2 e5 (fun x hx => by cases hx)
  have p1 : (fun y => if some y = none then zA S 204 y else fcut (zA S 204) (cutL S s l none 9) (zC S 2 (12 * s + l)) y) = fcut (zA S 204) (cutL S s l none 9) (zC S 2 (12 * s + l)) := funext fun y => if_neg (by simp)
  have p2 : (fun t => if (none : Option Nat).bind (zO S 205) = some t then zA S 1005 t else zA U 1005 t) = zA U 1005 := funext fun y => if_neg (by simp)
  rw [p1, p2] at t2
  have hsub : ∀ y, y ∈ cutL S s l none 9 → y ∈ hL S := fun y hy => by
    rcases cutL_m 9 y hy with e | e
    · cases e
    · exact e.1
  have pf := h.pfC e5 hsub tt.1
  have UA : ∀ f, f ≠ 7 ∧ f ≠ 204 ∧ f ≠ 402 ∧ f ≠ 1004 ∧ f ≠ 1005 → zA U f = zA S f := fun f hf => by rw [e4.1 f hf.2, wA f hf.1]
  have UO : zO U = zO S := e4.2.1.trans wO
  have UL : ∀ f, f ≠ 1107 → zL U f = zL S f := fun f hf => by rw [e4.2.2.1 f hf, wL]
  have UP : zP U = zP S := e4.2.2.2.1.trans wP
  have UC : ∀ f, f ≠ 3 ∧ f ≠ 4 → zC U f = zC S1 f := e4.2.2.2.2.1
  have UM : zM U = zM S1 := e4.2.2.2.2.2.1
  have UN : zN U = zN S1 := e4.2.2.2.2.2.2
  obtain ⟨T, hT⟩ : ∃ T, T = pA 1118 0 (zA S 1118 0 + 6) (drS U) := ⟨_, rfl⟩
  have TA : ∀ f, f ≠ 1118 → zA T f = zA U f := fun f hf => by rw [hT, fAA hf, drS_A]
  have TO : zO T = zO S := by rw [hT]; exact UO
  have TL : ∀ f, f ≠ 1107 → zL T f = zL S f := fun f hf => by rw [hT, tLA, drS_SF.2.2.1 f hf]; exact UL f hf
  have TC : zC T = zC U := by rw [hT]; rfl
  have TM : zM T = zM U := by rw [hT]; rfl
  have TN : zN T = zN U := by rw [hT]; rfl
  have eU : hL U = hL S := by unfold hL; rw [e5.1]
  have TH : hL T = (hL S).filter fun y => decide (0 < fcut (zA S 204) (cutL S s l none 9) (zC S 2 (12 * s + l)) y) := by
    have e : hL T = hL (drS U) := by rw [hT]; rfl
    rw [e, drS_L, eU]
    refine List.filter_congr fun y _ => by rw [e5.2.1]
  have T4 : ∀ y, y ∈ hL S → ¬ fcut (zA S 204) (cutL S s l none 9) (zC S 2 (12 * s + l)) y = 0 → zA T 204 y = fcut (zA S 204) (cutL S s l none 9) (zC S 2 (12 * s + l)) y := fun y _ _ => by rw [TA 204 (by decide)]; exact e5.2.1 y
  have coT : CO T := by
    rw [hT]
    exact co_cg (S := drS U) (fun f hf => fAA (by omega)) rfl rfl ⟨rfl, rfl⟩ (fun _ _ => rfl) e3.drop
  have c0 : ∀ j, zC T 0 j = zC S 0 j + if j = 12 * s + l then x else 0 := fun j => by
    rw [TC, UC 0 (by decide), w0, ← hx, dd_p (by omega)]
  have cs : zC T 0 (12 * s + l) = zC S 2 (12 * s + l) := by
    rw [c0, if_pos rfl]
    apply Int32.toInt_inj.mp
    rw [add_toInt (by omega) (by omega)]; omega
  obtain ⟨k', k1, g1, g2, g3, g4, g5, g6⟩ := h.wrB (T := T) (v := v) hk hs hl x0 e1' (by rw [← UC 0 (by decide), ← TC, cs]; exact h.nn.2.2 _ hj) (fun f hf => by rw [TC, UC f (by omega)]) (by rw [TM, UM]) (by rw [TA 7 (by decide), e4.1 7 (by decide)]) (fun f hf => by rw [TA f (by omega), UA f (by omega)]) TO (TL 704 (by decide)) (fun f hf => by rw [TN, UN, wN f (by omega)]) (by rw [TN, UN]) (fun j _ => by rw [t4 19 (by decide), hw2, bkV_19, cw_A (by decide)]) (by rw [t4 20 (by decide), hw2, bkV_A (by decide), cw_A (by decide)]) (fun j => by
    rw [t4 21 (by decide), hw2, bkV_21, cw_21]
    by_cases e : j = 12 * s + l
    · rw [if_pos e, if_pos ⟨hs, x0, e⟩]
    · rw [if_neg e, if_neg (fun r => e r.2.2)])
  refine ⟨drS U, v1, v, k', e2, s1, t1, k1, ?_, ?_, by rw [drS_P]; exact UP, fun f hf => by show zN U f = _; rw [UN, wN f hf], ?_, ?_, by rw [drS_A]; exact UA 705 (by decide), by rw [drS_A]; exact UA 1118 (by decide)⟩
  · rw [← hT]
    refine h.fin pf t2 (fun f hf => by rw [TA f hf.2.2.2.2.2.2, UA f ⟨hf.1, hf.2.1, hf.2.2.1, hf.2.2.2.2.1, hf.2.2.2.2.2.1⟩]) TO TL (fun f hf => by rw [TC, UC f ⟨hf.2.2.2.1, hf.2.2.2.2.1⟩, wC f ⟨hf.1, hf.2.1, hf.2.2.2.2.2⟩]) (fun f hf => by rw [TN, UN, wN f hf]) (fun f hf => by rw [t3 f hf.2.2, hw2, bkV_I, cw_I hf.2.1]) (by rw [t3 2 (by decide), hw2, bkV_I, cw_2, hT, sAA, if_pos rfl]) (fun f hf => by
      rw [t4 f (by omega), hw2, bkV_A (by omega), cw_A (by omega)]) TH T4 (fun t _ => ⟨by rw [TA 1004 (by decide)], by rw [TA 1005 (by decide)]⟩) coT.2.2.2.2.2 (fun a l' ha hl' => ?_) (h.liF (T := T) pf.1 TH T4 (fun f hf => by rw [TA f (by omega), UA f (by omega)]) TO (TL 704 (by decide)) ⟨by rw [TN, UN, wN 7 (by decide)], by rw [TN, UN, wN 4 (by decide)]⟩ (fun f hf => by rw [t4 f (by omega), hw2, bkV_A (by omega), cw_A (by omega)]) coT.2.2.2.2.2) g1 g2 g3 g4 g5 g6
    by_cases e : a = s ∧ l' = l
    · rw [e.1, e.2, cs]
      have nd := cutL_nd (s := s) (l := l) (f0 := none) h.ho.1 9
      have q1 := hbk2 (T := T) (S := S) (s := s) (l := l) h.ho.1 TH T4 (by rw [TA 202 (by decide), UA 202 (by decide)]) (by rw [TO]) (cutL_all h (f0 := none)) (fun y hy => (tI_of (pf.1 y (hsub y hy)).1).1)
      have q2 := cut_s (pc := zA S 204) (cutL S s l none 9) (zC S 2 (12 * s + l)) (fun y hy => (h.co.2.2.2.2.1 y (hsub y hy)).2) tt.1 nd
      have q3 := cut_b (pc := zA S 204) (cutL S s l none 9) (zC S 2 (12 * s + l)) (fun y hy => (h.co.2.2.2.2.1 y (hsub y hy)).2) tt.1
      omega
    · refine h.hbk3 pf.1 TH T4 (by rw [TA 202 (by decide), UA 202 (by decide)]) TO ha hl' ?_
      rw [c0, if_neg (by omega), Int32.add_zero]
      exact Int.le_refl _
  · rw [t3 0 (by decide), hw2, bkV_I, cw_I (by decide)]
  · unfold cst at wc ⊢
    show zN S 60 ≤ zN U 60 ∧ zN U 61 + zN S 60 ≤ zN S 61 + zN U 60 ∧ zN U 62 + 2 * zN S 60 ≤ zN S 62 + 2 * zN U 60
    rw [UN]; exact wc
  · have e : cT (drS U) (zN S 10) = cT U (zN S 10) := cT_eq (S := U) (T := drS U) (fun _ => rfl) (fun _ => rfl) _
    rw [e]
    exact h.cutT2 e5 hsub (UA 1006 (by decide))
end
