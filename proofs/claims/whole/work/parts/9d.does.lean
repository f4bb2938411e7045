/-! a task is done: both sides -/
section
variable {B k : Nat} {S T S1 Z A T1 : Ss} {w v u w0 : MS}
theorem Rel.kMoves (h : Rel B k S w) {p st q : Nat → Int32} (hx : KX S v p st q) (h53 : mA v 53 = mA w 53) {x0 t a b l : Nat} {n : Int32} (hx0 : x0 ∈ hL S) (ht0 : zO S 205 x0 = some t) (h48 : mA v 48 t = nI a) (h47 : mA v 47 t = nI l) (h49 : mA v 49 t = nI b) (h51 : mA v 51 t = n) (ha : a < 28) (hb : b < 28) (hl : l < 12) (c : Int32) : ∃ u, g_X12_moves (nI t) c v = some ((), u) ∧ KX S u (fun x => if x = x0 then 0 else p x) (fun s => if s = t then 2 else st s) q ∧ (∀ j, mA u 19 j = mA v 19 j + dd (some a) (some b) l n j) ∧ (∀ p l', p < 18 → l' < 12 → mA u 21 (12 * p + l') = if l' = l ∧ ¬ n = 0 ∧ (p = a ∨ p = b) then -1 else mA v 21 (12 * p + l')) ∧ mI u 2 = mI v 2 + c ∧ (∀ f, f ≠ 2 ∧ f ≠ 39 → mI u f = mI v f) ∧ ∀ f, f ≠ 19 ∧ f ≠ 21 ∧ f ≠ 40 ∧ f ≠ 41 ∧ f ≠ 42 ∧ f ≠ 43 ∧ f ≠ 44 ∧ f ≠ 52 ∧ f ≠ 58 ∧ f ≠ 59 → mA u f = mA v f := by
  have h60 := h.ta.1
  have htN := ((h.ho.2.1 x0 hx0).2.2.2.2.2 t ht0).1
  obtain ⟨v1, hv1⟩ : ∃ v1, v1 = bkV v a l (-n) := ⟨_, rfl⟩
  obtain ⟨v2, hv2⟩ : ∃ v2, v2 = bkV v1 b l n := ⟨_, rfl⟩
  obtain ⟨v3, hv3⟩ : ∃ v3, v3 = mSI 2 (mI v2 2 + c) v2 := ⟨_, rfl⟩
  have v2A : ∀ f, f ≠ 19 ∧ f ≠ 21 → mA v2 f = mA v f := fun f hf => by rw [hv2, bkV_A hf, hv1, bkV_A hf]
  have v1A : ∀ f, f ≠ 19 ∧ f ≠ 21 → mA v1 f = mA v f := fun f hf => by rw [hv1, bkV_A hf]
  have v2I : mI v2 = mI v := by rw [hv2, bkV_I, hv1, bkV_I]
  have v3A : mA v3 = mA v2 := by rw [hv3]; rfl
  have v3I : ∀ f, f ≠ 2 → mI v3 f = mI v f := fun f hf => by rw [hv3, fII hf, v2I]
  have kx3 : KX S v3 p st q := hx.wr (fun f hf => by rw [v3A]; exact v2A f (by omega)) (v3I 39 (by decide))
  obtain ⟨u1, u, e1, e2, e3, -, e5, e6, e7, e8⟩ := h.kxE kx3 (by rw [v3A, v2A 53 (by decide), h53]) hx0 ht0 2 (by decide)
  have b1 := k_books (w := v) ha hl (-n)
  have b2 := k_books (w := v1) hb hl n
  have j47 : t < mL 47 := show t < 60 by omega
  have j48 : t < mL 48 := show t < 60 by omega
  have j49 : t < mL 49 := show t < 60 by omega
  have j51 : t < mL 51 := show t < 60 by omega
  have ct := nI_clamp (show t < 2 ^ 31 by omega)
  refine ⟨u, ?_, e3, fun j => ?_, fun p' l' hp hl' => ?_, ?_, fun f hf => ?_, fun f hf => ?_⟩
  · simp only [g_X12_moves, r_grd, r_gnI j48 (show mL 48 < 2 ^ 31 by decide), r_gnI j47 (show mL 47 < 2 ^ 31 by decide), r_gnI j49 (show mL 49 < 2 ^ 31 by decide), r_gnI j51 (show mL 51 < 2 ^ 31 by decide), ct, h48, h47, h51, r_gb, b1, gbn_s, ← hv1, v1A 49 (by decide), v1A 47 (by decide), v1A 51 (by decide), h49, b2, ← hv2, r_gst, ← hv3, e1, e2, r_gret]
  · rw [e8 19 (by decide), v3A, hv2, bkV_19, hv1, bkV_19, dd_s, Int32.add_assoc]
  · rw [e8 21 (by decide), v3A, hv2, bkV_21, hv1, bkV_21]
    by_cases q1 : l' = l ∧ ¬ n = 0 ∧ (p' = a ∨ p' = b)
    · rw [if_pos q1]
      obtain ⟨r1, r2, r3⟩ := q1
      by_cases q2 : b < 18 ∧ ¬ n = 0 ∧ 12 * p' + l' = 12 * b + l
      · rw [if_pos q2]
      · rw [if_neg q2, if_pos]
        have : ¬ p' = b := fun e => q2 ⟨by omega, r2, by rw [e, r1]⟩
        have r4 := r3.resolve_right this
        exact ⟨by omega, fun e => r2 ((neg_0 n).mp e), by rw [r4, r1]⟩
    · rw [if_neg q1, if_neg, if_neg]
      · rintro ⟨r1, r2, r3⟩
        exact q1 ⟨by omega, fun e => r2 ((neg_0 n).mpr e), Or.inl (by omega)⟩
      · rintro ⟨r1, r2, r3⟩
        exact q1 ⟨by omega, r2, Or.inr (by omega)⟩
  · rw [e6 2 (by decide), hv3, sII, v2I]
  · rw [e6 f hf.2, v3I f hf.1]
  · rw [e8 f ⟨hf.2.2.1, hf.2.2.2.1, hf.2.2.2.2.1, hf.2.2.2.2.2.1, hf.2.2.2.2.2.2.1, hf.2.2.2.2.2.2.2⟩, v3A, v2A f ⟨hf.1, hf.2.1⟩]
/-- a state before a task is finished: what was believed, what was cut -/
def ZS (S S1 Z : Ss) (p0 st0 q0 : Nat → Int32) : Prop := (∀ f, f ≠ 7 ∧ f ≠ 204 ∧ f ≠ 402 ∧ f ≠ 1004 ∧ f ≠ 1005 → zA Z f = zA S f) ∧ zO Z = zO S ∧ (∀ f, f ≠ 1107 → zL Z f = zL S f) ∧ zP Z = zP S ∧ (∀ f, f ≠ 3 ∧ f ≠ 4 → zC Z f = zC S1 f) ∧ zM Z = zM S1 ∧ zN Z = zN S1 ∧ zA Z 7 = zA S1 7 ∧ hL Z = (hL S).filter (fun x => decide (0 < p0 x)) ∧ (∀ x, x ∈ hL S → zA Z 204 x = p0 x) ∧ (∀ t, t < zN S 10 → zA Z 1004 t = q0 t ∧ zA Z 1005 t = st0 t) ∧ CO Z
theorem Rel.zs0 (h : Rel B k S w) : ZS S S S (zA S 204) (zA S 1005) (zA S 1004) := by
  refine ⟨fun _ _ => rfl, rfl, fun _ _ => rfl, rfl, fun _ _ => rfl, rfl, rfl, rfl, ?_, fun _ _ => rfl, fun _ _ => ⟨rfl, rfl⟩, h.co⟩
  rw [List.filter_eq_self.mpr fun y hy => ?_]
  have t := tI_of (h.ho.2.1 y hy).2.1
  have e0 : (0 : Int32).toInt = 0 := rfl
  exact decide_eq_true (Int32.lt_iff_toInt_lt.mpr (by omega))
theorem ZS.cut {s l : Nat} {x r : Int32} {xs : List Nat} {U : Ss} (hW : WR S S1 none (some s) l x k) (hU : CO U) (hF : SF S1 U) (hc : CCv S U xs r) : ZS S S1 (drS U) (fcut (zA S 204) xs r) (zA U 1005) (zA U 1004) := by
  obtain ⟨wA, wO, wL, wP, wC, wN, -⟩ := hW
  have eU : hL U = hL S := by unfold hL; rw [hc.1]
  refine ⟨fun f hf => by rw [drS_A, hF.1 f hf.2, wA f hf.1], hF.2.1.trans wO, fun f hf => by rw [drS_SF.2.2.1 f hf, hF.2.2.1 f hf, wL], by rw [drS_P, hF.2.2.2.1, wP], fun f hf => hF.2.2.2.2.1 f hf, hF.2.2.2.2.2.1, hF.2.2.2.2.2.2, by rw [drS_A]; exact hF.1 7 (by decide), ?_, fun y _ => by rw [drS_A]; exact hc.2.1 y, fun _ _ => by rw [drS_A]; exact ⟨rfl, rfl⟩, hU.drop⟩
  rw [drS_L, eU]
  refine List.filter_congr fun y _ => by rw [hc.2.1]
/-- what holds after a task was finished -/
theorem Rel.doG (h : Rel B k S w) {p0 st0 q0 : Nat → Int32} (pf0 : PF S p0 st0 q0) {x0 t l a b s k1 : Nat} {x n : Int32} (hx0 : x0 ∈ hL S) (ht0 : zO S 205 x0 = some t) (hl : l < zN S 5) (hs : s < 18) (ha : a < 19) (hb : b < 28) (hb2 : b < 18 ∨ 20 ≤ b) (hW : WR S S1 none (some s) l x k) (hWk : k1 ≤ k + 1) (hWm : ∀ p l', p < 28 → l' < 12 → mvS (zM S1) k1 p l' = mvS (zM S) k p l' + dd none (some s) l x (12 * p + l')) (hk : k + 2 ≤ 1024) (hZ : ZS S S1 Z p0 st0 q0) (hM : MVD Z A (some a) (some b) l n k1) (hn : tI n 0 99) (hn1 : n.toInt ≤ (zC S1 0 (12 * a + l)).toInt) (hv : tI (zC S1 0 (12 * s + l)) 0 B) (hrr : a = 18 → rl S1 (some a) l n = n) (hB9 : B + 99 ≤ 8000000) (r2 : SF A T1) (r3 : zL T1 = zL A) (r4 : ∀ y, zA T1 204 y = if y = x0 then 0 else zA Z 204 y) (r5 : zA T1 1004 = zA Z 1004) (r6 : zA T1 1005 = zA Z 1005) (r7 : CO T1) (TA : ∀ f, f ≠ 1005 ∧ f ≠ 1118 ∧ f ≠ 403 → zA T f = zA T1 f) (T5 : ∀ s', zA T 1005 s' = if s' = t then 2 else zA T1 1005 s') (TO : zO T = zO T1) (TL : zL T = zL (drS T1)) (TC : zC T = zC T1) (TM : zM T = zM T1) (TN : zN T = zN T1) (hx : KX S u (fun x => if x = x0 then 0 else p0 x) (fun s => if s = t then 2 else st0 s) q0) (v19 : ∀ j, j < 336 → mA u 19 j = mA w 19 j + (dd none (some s) l x j + dd (some a) (some b) l n j)) (v20 : ∀ j, j < 216 → mA u 20 j = mA w 20 j + dd (some a) (some b) l (rl S1 (some a) l n) j) (v21 : ∀ p l', p < 18 → l' < 12 → mA u 21 (12 * p + l') = if l' = l ∧ ((¬ x = 0 ∧ p = s) ∨ (¬ n = 0 ∧ (p = a ∨ p = b))) then -1 else mA w 21 (12 * p + l')) (v2 : mI u 2 = zA T 1118 0) (hI : ∀ f, f ≠ 0 ∧ f ≠ 2 ∧ f ≠ 39 → mI u f = mI w f) (hB : ∀ f, f ≠ 19 ∧ f ≠ 20 ∧ f ≠ 21 ∧ f ≠ 38 ∧ f ≠ 40 ∧ f ≠ 41 ∧ f ≠ 42 ∧ f ≠ 43 ∧ f ≠ 44 ∧ f ≠ 51 ∧ f ≠ 52 ∧ f ≠ 58 ∧ f ≠ 59 → mA u f = mA w f) (hbk : (∀ j, zC T 0 j = zC S 0 j + (dd none (some s) l x j + dd (some a) (some b) l n j)) → hL T = ((hL S).filter fun y => decide (0 < (if y = x0 then (0 : Int32) else p0 y))) → (∀ y, y ∈ hL S → zA T 204 y = if y = x0 then 0 else p0 y) → ∀ a' l', a' < 19 → l' < 12 → sz (hL T) (fun y => (hpc T a' l' y).toInt) ≤ (zC T 0 (12 * a' + l')).toInt) (hli : hL T = ((hL S).filter fun y => decide (0 < (if y = x0 then (0 : Int32) else p0 y))) → (∀ y, y ∈ hL S → zA T 204 y = if y = x0 then 0 else p0 y) → CH T → g_li T u) (hst : (∀ j, zC T 0 j = zC S 0 j + (dd none (some s) l x j + dd (some a) (some b) l n j)) → g_st T u) : ∃ k', k' ≤ k1 + 1 ∧ Rel (B + 99) k' T u := by
  obtain ⟨zA1, zO1, zL1, zP1, zC1, zM1, zN1, z7, zH, z204, zT, zco⟩ := hZ
  have hW' := hW
  have hM' := hM
  obtain ⟨wA, wO, wL, wP, wC, wN, -⟩ := hW'
  obtain ⟨m1, m2, m3, m4, m5, m6, -⟩ := hM'
  have A1 : ∀ f, f ≠ 7 ∧ f ≠ 204 ∧ f ≠ 402 ∧ f ≠ 403 ∧ f ≠ 1004 ∧ f ≠ 1005 ∧ f ≠ 1118 → zA T f = zA S f := fun f hf => by
    rw [TA f ⟨hf.2.2.2.2.2.1, hf.2.2.2.2.2.2, hf.2.2.2.1⟩, r2.1 f ⟨hf.2.1, hf.2.2.1, hf.2.2.2.2.1, hf.2.2.2.2.2.1⟩, m1 f hf.1, zA1 f ⟨hf.1, hf.2.1, hf.2.2.1, hf.2.2.2.2.1, hf.2.2.2.2.2.1⟩]
  have O1 : zO T = zO S := by rw [TO, r2.2.1, m2, zO1]
  have L1 : ∀ f, f ≠ 1107 → zL T f = zL S f := fun f hf => by rw [TL, drS_SF.2.2.1 f hf, r3, m3, zL1 f hf]
  have N1 : ∀ f, f ≠ 60 ∧ f ≠ 61 ∧ f ≠ 62 → zN T f = zN S f := fun f hf => by rw [TN, r2.2.2.2.2.2.2, m6 f hf, zN1, wN f hf]
  have H1 : hL T = (hL S).filter fun y => decide (0 < (if y = x0 then (0 : Int32) else p0 y)) := by
    have e1 : hL T = hL (drS T1) := by unfold hL; rw [TL]
    have e2 : hL T1 = (hL S).filter fun x => decide (0 < p0 x) := by rw [← zH]; unfold hL; rw [r3, m3]
    rw [e1, drS_L, e2, List.filter_filter]
    refine List.filter_congr fun y hy => ?_
    rw [r4, z204 y hy]
    by_cases e : y = x0
    · rw [if_pos e]; simp
    · rw [if_neg e]; simp
  have V1 : ∀ y, y ∈ hL S → zA T 204 y = if y = x0 then 0 else p0 y := fun y hy => by
    rw [TA 204 (by decide), r4, z204 y hy]
  have t3 : ∀ t', t' < zN S 10 → zA T 1004 t' = q0 t' ∧ zA T 1005 t' = if t' = t then 2 else st0 t' := fun t' ht' => by
    rw [TA 1004 (by decide), r5, T5, r6, (zT t' ht').1, (zT t' ht').2]
    exact ⟨rfl, rfl⟩
  have coT : CO T := co_cg (S := drS T1) (fun f hf => by rw [TA f (by omega), drS_A]) TO (by rw [TL]) ⟨by rw [TC]; rfl, by rw [TC]; rfl⟩ (fun f _ => by rw [TN]; rfl) r7.drop
  obtain ⟨k', k1', g1, g2, g3, g4, g5, g6⟩ := h.mvB (T := T) (v := u) hl hs ha hb hb2 hW hWk hWm hk (fun f hf => zC1 f (by omega)) zM1 zO1 hM hn hn1 hv hrr hB9 (fun f hf => by rw [TC, r2.2.2.2.2.1 f (by omega)]) (by rw [TM, r2.2.2.2.2.2.1]) (by rw [TA 7 (by decide), r2.1 7 (by decide)]) O1 (N1 5 (by decide)) (by rw [TN, r2.2.2.2.2.2.2]) v19 v20 v21
  refine ⟨k', k1', ?_⟩
  exact h.fin (h.pfE pf0 hx0 ht0 (Or.inl rfl)) hx A1 O1 L1 (fun f hf => by rw [TC, r2.2.2.2.2.1 f ⟨hf.2.2.2.1, hf.2.2.2.2.1⟩, m5 f ⟨hf.1, hf.2.1, hf.2.2.2.2.2, hf.2.2.1⟩, zC1 f ⟨hf.2.2.2.1, hf.2.2.2.2.1⟩, wC f ⟨hf.1, hf.2.1, hf.2.2.2.2.2⟩]) N1 hI v2 hB H1 (fun y hy _ => V1 y hy) t3 coT.2.2.2.2.2 (hbk g6 H1 V1) (hli H1 V1 coT.2.2.2.2.2) g1 g2 g3 g4 g5 (hst g6)
end
