/-! what it costs; the reference's new task -/
section
variable {B k : Nat} {S T U : Ss} {w v : MS}
def CS (S T : Ss) (a b : Nat) : Prop := zN T 61 ≤ zN S 61 + a ∧ zN T 62 + 4 * capS S ≤ zN S 62 + 4 * capS T + b ∧ zN T 60 = zN S 60 ∧ (g_cp S → g_cp T)
theorem CS.rf : CS S S 0 0 := ⟨Nat.le_refl _, Nat.le_refl _, rfl, id⟩
theorem CS.tr {a b a' b' : Nat} (h : CS S T a b) (h' : CS T U a' b') : CS S U (a + a') (b + b') := by
  obtain ⟨h1, h2, h3, h4⟩ := h
  obtain ⟨g1, g2, g3, g4⟩ := h'
  exact ⟨by omega, by omega, by omega, fun q => g4 (h4 q)⟩
theorem CS.mo {a b a' b' : Nat} (h : CS S T a b) (ha : a ≤ a') (hb : b ≤ b') : CS S T a' b' := by
  obtain ⟨h1, h2, h3, h4⟩ := h
  exact ⟨by omega, by omega, h3, h4⟩
/-- nothing is used -/
theorem CS.eq (hN : ∀ f, f = 7 ∨ f = 60 ∨ f = 61 ∨ f = 62 → zN T f = zN S f) (hP : zP T = zP S) : CS S T 0 0 := by
  have c1 : capS T = capS S := by unfold capS; rw [hP]
  refine ⟨by rw [hN 61 (by decide)]; omega, by rw [hN 62 (by decide), c1]; omega, hN 60 (by decide), fun q => ?_⟩
  unfold g_cp at *
  rw [hP, hN 7 (by decide)]; exact q
theorem GG.cs {m : Nat} (g : GG m S w) (hm : m < 512) {a b : Nat} (h : CS S T a b) (ha : a ≤ 900) (hb : b ≤ 11000) (hk : cT T (zN T 10) + 12 * cS T (zN T 7) = cT S (zN S 10) + 12 * cS S (zN S 7)) (hR : ∀ B k, B ≤ 15000 * m + 1 → Rel B k S w → ∃ B', B' ≤ B + 15000 ∧ Rel B' k T v) : GG (m + 1) T v := by
  obtain ⟨h1, h2, h3, h4⟩ := h
  exact g.gen hm h3 (by omega) (by omega) (h4 g.2.2.1) hk hR
theorem cp_upd {F : Nat} (hF : F = 1107 ∨ F = 1108) (hP : ∀ f i, ¬ (f = F ∧ i = 0) → zP T f i = zP S f i) (hc : zP S F 0 ≤ 3900 → zP T F 0 ≤ 3900) (h7 : zN T 7 = zN S 7) (q : g_cp S) : g_cp T := by
  obtain ⟨q1, q2, q3⟩ := q
  refine ⟨fun f h1 h2 => ?_, fun r hr => ?_, fun o ho => ?_⟩
  · by_cases e : f = F
    · subst e; exact hc (q1 f h1 h2)
    · rw [hP f 0 (fun r => e r.1)]; exact q1 f h1 h2
  · rw [hP 800 r (fun e => by have := e.1; omega)]; exact q2 r hr
  · rw [hP 704 o (fun e => by have := e.1; omega), h7]; exact q3 o ho
theorem HD.cs {r1 r2 : Option Nat} {p l : Nat} {n : Int32} (h : HD S T r1 r2 p l n) : CS S T 2 6 := by
  obtain ⟨-, -, -, -, -, -, -, -, -, -, -, -, -, hP, -, -, -, hN, -, h61, h62, hc⟩ := h
  have e := cap_1107_0 (S := S) (T := T) hP rfl
  exact ⟨h61, by omega, hN 60 (by decide), cp_upd (Or.inl rfl) hP hc (hN 7 (by decide))⟩
theorem MK.cs {kd : Int32} {x : Nat} {y : Int32} (h : MK S T kd x y) : CS S T 2 7 := by
  obtain ⟨-, -, -, -, -, -, -, -, -, -, -, -, -, -, hP, -, hN, -, h61, h62, hc⟩ := h
  have e := cap_1108_0 (S := S) (T := T) hP rfl
  exact ⟨h61, by omega, hN 60 (by decide), cp_upd (Or.inr rfl) hP hc (hN 7 (by decide))⟩
def mkV (w : MS) (N : Nat) (kd l p s j n : Int32) : MS := mSI 45 (nI (N + 1)) (mSA 54 N 0 (mSA 53 N (-1) (mSA 52 N 0 (mSA 51 N n (mSA 50 N j (mSA 49 N s (mSA 48 N p (mSA 47 N l (mSA 46 N kd w)))))))))
theorem k_makes {N : Nat} (hN : N < 60) (h45 : mI w 45 = nI N) (kd l p s j n : Int32) : g_X12_makes kd l p s j n w = some (nI N, mkV w N kd l p s j n) := by
  have c : (nI N).toNatClampNeg = N := nI_clamp (by omega)
  simp only [g_X12_makes, kif, r_gb, gbn_s, r_grd, r_gbo, r_gret, r_gst, k_isIn, k_isSlot, k_isItem, k_isGroup, k_isRobot, k_are, k_holds0, k_holds1, k_holds2, k_holds3, k_bit, k_less, bI_t, bI_f, i10, i00, i01, i11, i20, i30, ↓reduceIte, mI_mSA, mI_mSI, mA_mSI, mA_mSA, Nat.reduceEqDiff, reduceCtorEq, Nat.reduceEqDiff, false_and, true_and, and_true, h45, r_gnI (show N < mL 46 from hN) (show mL 46 < 2 ^ 31 by decide), r_gnI (show N < mL 47 from hN) (show mL 47 < 2 ^ 31 by decide), r_gnI (show N < mL 48 from hN) (show mL 48 < 2 ^ 31 by decide), r_gnI (show N < mL 49 from hN) (show mL 49 < 2 ^ 31 by decide), r_gnI (show N < mL 50 from hN) (show mL 50 < 2 ^ 31 by decide), r_gnI (show N < mL 51 from hN) (show mL 51 < 2 ^ 31 by decide), r_gnI (show N < mL 52 from hN) (show mL 52 < 2 ^ 31 by decide), r_gnI (show N < mL 53 from hN) (show mL 53 < 2 ^ 31 by decide), r_gnI (show N < mL 54 from hN) (show mL 54 < 2 ^ 31 by decide), c, nI_1, nI_pred]
  rfl
/-- both steps together -/
theorem AD.of {S1 : Ss} {kd : Int32} {p l s i : Nat} {n : Int32} (h : Rel B k S w) (h1 : HD S S1 none none p l n) (h2 : MK S1 T kd (zN S 2) (nI s)) (hC : ∀ f, f ≠ 4 → zC T f = zC S1 f) (hC4 : ∀ j, zC T 4 j = if j = 6 * s + i then zC S1 4 j + zA S1 204 (zN S 2) else zC S1 4 j) : AD S T w (mkV w (zN S 10) kd (nI l) (nI p) (nI s) (-1) n) kd p l n s i := by
  obtain ⟨a1, a2, a3, a4, a5, a6, a7, a8, a9, a10, a11, a12, a13, -, a15, a16, a17, a18, a19, -⟩ := h1
  obtain ⟨b1, b2, b3, b4, b5, b6, b7, b8, b9, b10, b11, b12, b13, b14, -, b16, b17, b18, -⟩ := h2
  have n10 : zN S1 10 = zN S 10 := a18 10 (by decide)
  have l8 : (zL S1 1108 0).length = zN S 10 := by rw [a12 1108 (by decide), h.nt]
  rw [n10] at b2 b3 b4 b5 b6 b7 b8 b10 b11 b12 b14 b18
  rw [l8] at b3
  rw [a4] at b6 hC4
  have e402 : zA S1 402 = zA S 402 := funext fun j => by rw [a5, if_neg (by simp)]
  unfold AD
  refine ⟨fun f hf => ?_, fun f x hf hx => ?_, fun f x hf hx => ?_, ⟨?_, ?_, ?_, ?_, ?_, ?_⟩, fun f hf => ?_, fun f x hf hx => ?_, fun f x hf hx => ?_, ⟨b3, b4, b5, b6, b7, b8, b12⟩, fun f hf => ?_, ?_, ?_, fun f hf => ?_, fun j => ?_, fun j => ?_, by rw [b16, a17], fun f hf => ?_, ?_, ?_, fun f hf => ?_, fun f x hx => ?_, fun f hf => ?_, ?_, ?_, ?_, ?_, ?_, ?_, ?_, ?_, ?_, ?_⟩
  · rw [b1 f hf.2]
    by_cases e : f = 402
    · subst e; exact e402
    · exact a1 f hf.1 e
  · rw [b1 f (by omega), a2 f x hx (by omega)]
  · rw [b2 f x hx, a1 f (by omega) (by omega)]
  · rw [b1 202 (by decide)]; exact a3
  · rw [b1 204 (by decide)]; exact a4
  · rw [b9 200 (by decide) (by decide)]; exact a8
  · rw [b9 201 (by decide) (by decide)]; exact a9
  · rw [b9 203 (by decide) (by decide)]; exact a10
  · rw [b11, if_pos rfl]
  · rw [b9 f hf.2 (fun e => by subst e; exact hf.1 rfl), a6 f hf.1]
  · by_cases e : f = 205
    · subst e; rw [b11, if_neg hx, a7 205 x hx]
    · rw [b9 f (by omega) e, a7 f x hx]
  · rw [b10 f x hx (by omega), a6 f (by omega)]
  · rw [b13 f hf.2, a12 f hf.1]
  · rw [b13 1107 (by decide), a13]
  · rw [b14, a12 1108 (by decide)]
  · rw [hC f hf.2, a15 f hf.1]
  · rw [hC 3 (by decide), a16]
  · rw [hC4, a15 4 (by decide)]
  · rw [b17 f (by omega), a18 f (by omega)]
  · rw [b17 2 (by decide), a19]
  · rw [b18]
  · unfold mkV
    simp only [mA_mSI]
    rw [fBA (by omega), fBA (by omega), fBA (by omega), fBA (by omega), fBA (by omega), fBA (by omega), fBA (by omega), fBA (by omega), fBA (by omega)]
  · unfold mkV
    simp only [mA_mSI, mA_mSA]
    rw [if_neg (fun r => hx r.2), if_neg (fun r => hx r.2), if_neg (fun r => hx r.2), if_neg (fun r => hx r.2), if_neg (fun r => hx r.2), if_neg (fun r => hx r.2), if_neg (fun r => hx r.2), if_neg (fun r => hx r.2), if_neg (fun r => hx r.2)]
  · unfold mkV
    rw [mI_mSI, if_neg hf]
    rfl
  · unfold mkV; rw [mI_mSI, if_pos rfl]
  all_goals (unfold mkV; simp only [kif, r_gb, gbn_s, r_grd, r_gbo, r_gret, r_gst, k_isIn, k_isSlot, k_isItem, k_isGroup, k_isRobot, k_are, k_holds0, k_holds1, k_holds2, k_holds3, k_bit, k_less, bI_t, bI_f, i10, i00, i01, i11, i20, i30, ↓reduceIte, mI_mSA, mI_mSI, mA_mSI, mA_mSA, Nat.reduceEqDiff, reduceCtorEq, Nat.reduceEqDiff, false_and, true_and, and_true])
/-- the two steps as one: PUT, REFILL -/
theorem Rel.add (h : Rel B k S w) {kd n : Int32} {p l s i : Nat} (hN : zN S 10 < 60) (hl : l < zN S 5) (hi : itS S l = i) (hs : s < 18) (hn : tI n 1 99) (hk : (kd = 0 ∧ p = 18 ∧ zO S 902 s = none) ∨ (kd = 1 ∧ p < 18 ∧ zO S 902 s = some i)) (hf : n.toInt + (zC S 3 (12 * p + l)).toInt ≤ (zC S 0 (12 * p + l)).toInt) (hlen : (zL S 1107 0).length < 2600) : ∃ T, (∀ R : MM Int32, (mb (f_X11_hold none none (nI p) l n) fun r76 => mopt r76 fun i84 => mb (f_X11_makeTask kd i84 (nI s)) fun _ => R).1 S = R.1 T) ∧ (∀ R : MM (Nat × Int32), (mb (f_X11_hold none none (nI p) l n) fun r76 => mopt r76 fun i84 => mb (f_X11_makeTask kd i84 (nI s)) fun _ => R).1 S = R.1 T) ∧ AD S T w (mkV w (zN S 10) kd (nI l) (nI p) (nI s) (-1) n) kd p l n s i ∧ Rel B k T (mkV w (zN S 10) kd (nI l) (nI p) (nI s) (-1) n) ∧ CS S T 4 13 := by
  have h12 := h.lo.1
  have hp : p < 28 := by rcases hk with q | q <;> omega
  obtain ⟨e1, -, -, -, e5, e6, -⟩ := h.lo.2.2.2.1 l hl
  obtain ⟨S1, q1, q2⟩ := e_hold (S := S) (r1 := none) (r2 := none) (n := n) hp (by omega) e1 hlen
  have kd2 : ¬ kd = 2 := by
    rcases hk with ⟨q, -⟩ | ⟨q, -⟩ <;> (rw [q]; decide)
  have hi6 : i < 6 := by rw [← hi]; exact e6
  obtain ⟨T, t1, t2, t3, t4⟩ := e_makeR (S := S1) (kd := kd) (h := zN S 2) (s := s) (l := l) (i := i) kd2 (by rw [q2.2.2.2.2.2.2.2.2.2.2.2.1 1108 (by decide), h.nt]; omega) hs hi6 q2.2.2.2.2.2.2.2.2.2.1 (by rw [q2.2.2.2.2.2.1 501 (by decide), e5, hi]) (by rw [q2.1 300 (by decide) (by decide)]; exact (h.it i hi6).1)
  have ad := AD.of h q2 t2 t3 t4
  refine ⟨T, fun R => ?_, fun R => ?_, ad, h.ad ad hN hl hi hs hn hk hf, q2.cs.tr t2.cs⟩
  · simp only [r_mb, q1, bnd_s, r_mopt, t1]
  · simp only [r_mb, q1, bnd_s, r_mopt, t1]
end
