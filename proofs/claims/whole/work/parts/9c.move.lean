/-! what a move does to the book -/
section
variable {B k : Nat} {S T S1 Z A : Ss} {w v u w0 : MS}
theorem neg_0 (n : Int32) : (-n = 0) ↔ n = 0 := by
  constructor
  · intro r
    have := congrArg (fun z => -z) r
    simpa using this
  · intro r; rw [r]; rfl
theorem dd_s {a b l j : Nat} {n : Int32} : dd (some a) (some b) l n j = (if j = 12 * a + l then -n else 0) + if j = 12 * b + l then n else 0 := rfl
theorem Rel.mvB (h : Rel B k S w) {s l a b k1 : Nat} {x n : Int32} (hl : l < zN S 5) (hs : s < 18) (ha : a < 19) (hb : b < 28) (hb2 : b < 18 ∨ 20 ≤ b) (hW : WR S S1 none (some s) l x k) (hWk : k1 ≤ k + 1) (hWm : ∀ p l', p < 28 → l' < 12 → mvS (zM S1) k1 p l' = mvS (zM S) k p l' + dd none (some s) l x (12 * p + l')) (hk : k + 2 ≤ 1024) (hZ : ∀ f, f = 0 ∨ f = 1 ∨ f = 2 ∨ f = 5 → zC Z f = zC S1 f) (hZM : zM Z = zM S1) (hZO : zO Z = zO S) (hM : MVD Z A (some a) (some b) l n k1) (hn : tI n 0 99) (hn1 : n.toInt ≤ (zC S1 0 (12 * a + l)).toInt) (hv : tI (zC S1 0 (12 * s + l)) 0 B) (hrr : a = 18 → rl S1 (some a) l n = n) (hB9 : B + 99 ≤ 8000000) (hC : ∀ f, f = 0 ∨ f = 1 ∨ f = 2 ∨ f = 5 → zC T f = zC A f) (hM1 : zM T = zM A) (hA7 : zA T 7 = zA A 7) (hO1 : zO T = zO S) (hN5 : zN T 5 = zN S 5) (hN6 : zN T 60 = zN A 60) (v19 : ∀ j, j < 336 → mA v 19 j = mA w 19 j + (dd none (some s) l x j + dd (some a) (some b) l n j)) (v20 : ∀ j, j < 216 → mA v 20 j = mA w 20 j + dd (some a) (some b) l (rl S1 (some a) l n) j) (v21 : ∀ p l', p < 18 → l' < 12 → mA v 21 (12 * p + l') = if l' = l ∧ ((¬ x = 0 ∧ p = s) ∨ (¬ n = 0 ∧ (p = a ∨ p = b))) then -1 else mA w 21 (12 * p + l')) : ∃ k', k' ≤ k1 + 1 ∧ g_bk T v ∧ g_nn (B + 99) T ∧ g_tr T v ∧ g_db T v ∧ g_mv T k' ∧ ∀ j, zC T 0 j = zC S 0 j + (dd none (some s) l x j + dd (some a) (some b) l n j) := by
  have h12 := h.lo.1
  obtain ⟨wA, wO, wL, wP, wC, wN, wc, w0, w1, w5, -⟩ := hW
  obtain ⟨m1, m2, m3, m4, m5, m6, m7, m8, m9, m10, m11, k', m12, m13, m14⟩ := hM
  have hrz : rl Z (some a) l n = rl S1 (some a) l n := by unfold rl; rw [hZ 2 (by decide)]
  have itZ : itS Z l = itS S l := itS_O (by rw [hZO]) l
  have hdx : ∀ j, dd none (some s) l x j = if j = 12 * s + l then x else 0 := fun j => dd_p (by omega)
  have c0 : ∀ j, zC T 0 j = zC S 0 j + (dd none (some s) l x j + dd (some a) (some b) l n j) := fun j => by
    rw [hC 0 (by decide), m8, hZ 0 (by decide), w0, Int32.add_assoc]
  have c01 : ∀ j, zC T 0 j = zC S1 0 j + dd (some a) (some b) l n j := fun j => by
    rw [hC 0 (by decide), m8, hZ 0 (by decide)]
  have c2 : ∀ j, zC T 2 j = zC S 2 j + dd (some a) (some b) l (rl S1 (some a) l n) j := fun j => by
    rw [hC 2 (by decide), m11, hZ 2 (by decide), wC 2 (by decide), hrz]
  obtain ⟨n1, n2, n3⟩ := h.nn
  have tn := tI_of hn
  have s1v : ∀ j, j < 336 → tI (zC S1 0 j) 0 B := fun j hj => by
    by_cases e : j = 12 * s + l
    · rw [e]; exact hv
    · rw [w0, hdx, if_neg e, Int32.add_zero]; exact n2 j hj
  have rr0 : 0 ≤ (rl S1 (some a) l n).toInt ∧ (rl S1 (some a) l n).toInt ≤ n.toInt ∧ (rl S1 (some a) l n).toInt ≤ (zC S 2 (12 * a + l)).toInt := by
    have t := tI_of (n3 (12 * a + l) (by omega))
    have e : rl S1 (some a) l n = if zC S 2 (12 * a + l) < n then zC S 2 (12 * a + l) else n := by unfold rl; rw [wC 2 (by decide)]
    rw [e]
    by_cases q : zC S 2 (12 * a + l) < n
    · rw [if_pos q]; have := Int32.lt_iff_toInt_lt.mp q; omega
    · rw [if_neg q]; have := mt Int32.lt_iff_toInt_lt.mpr q; omega
  have step : ∀ (y z : Int32) (j : Nat), tI y 0 B → 0 ≤ z.toInt → z.toInt ≤ 99 → (j = 12 * a + l → z.toInt ≤ y.toInt) → tI (y + dd (some a) (some b) l z j) 0 ((B + 99 : Nat) : Int) := fun y z j hy z0 z1 hz => by
    have hy := tI_of hy
    rw [dd_s]
    by_cases q1 : j = 12 * a + l
    · by_cases q2 : j = 12 * b + l
      · rw [if_pos q1, if_pos q2, Int32.add_left_neg, Int32.add_zero]
        exact ⟨by omega, by omega⟩
      · rw [if_pos q1, if_neg q2, Int32.add_zero, ← Int32.sub_eq_add_neg]
        have := hz q1
        have e : (y - z).toInt = y.toInt - z.toInt := sub_toInt (by omega) (by omega)
        exact ⟨by omega, by omega⟩
    · rw [if_neg q1, Int32.zero_add]
      by_cases q2 : j = 12 * b + l
      · rw [if_pos q2]
        have e : (y + z).toInt = y.toInt + z.toInt := add_toInt (by omega) (by omega)
        exact ⟨by omega, by omega⟩
      · rw [if_neg q2, Int32.add_zero]
        exact ⟨by omega, by omega⟩
  refine ⟨k', m12, bk_of h hl (d := fun j => dd none (some s) l x j + dd (some a) (some b) l n j) (fun j _ => c0 j) (fun p i hi => ?_) (fun p l' h1 h2 => ?_) v19 hN5 (by rw [hO1]), ⟨hB9, fun j hj => ?_, fun j hj => ?_⟩, ⟨fun j hj => by rw [c2, v20 j hj, h.tr.1 j hj], fun j h1 h2 => ?_⟩, ?_, mv_of h (d := fun j => dd none (some s) l x j + dd (some a) (some b) l n j) (by omega) (by
    unfold mvA at m13 ⊢; rw [hA7, hN6]; exact m13) (fun p l' hp hl' => by rw [hM1, m14 p l' hp hl', hZM, hWm p l' hp hl', Int32.add_assoc]) (fun j _ => c0 j), c0⟩
  · rw [hC 1 (by decide), m9 p i hi, hZ 1 (by decide), w1 p i hi, itZ]
    by_cases e : i = itS S l
    · rw [if_pos e, if_pos e, if_pos e, Int32.add_assoc]
    · rw [if_neg e, if_neg e, if_neg e, Int32.add_zero]
  · unfold dd
    rw [dl_ne (by omega) h1 h2, dl_ne (by omega) h1 h2, dl_ne (by omega) h1 h2, dl_ne (by omega) h1 h2]; rfl
  · rw [c01]
    exact step _ n j (s1v j hj) tn.1 tn.2 fun e => by rw [e]; exact hn1
  · rw [c2]
    exact step _ (rl S1 (some a) l n) j (n3 j hj) rr0.1 (by omega) fun e => by rw [e]; exact rr0.2.2
  · rw [c2, c0, h.tr.2 j h1 h2, hdx, if_neg (show ¬ j = 12 * s + l by omega), Int32.zero_add]
    by_cases e : a = 18
    · rw [hrr e]
    · have z : ∀ y : Int32, dd (some a) (some b) l y j = 0 := fun y => by
        rw [dd_s, if_neg (show ¬ j = 12 * a + l by omega), if_neg (show ¬ j = 12 * b + l by omega)]; rfl
      rw [z, z]
  · refine db_of h (l := l) (P := fun p => (¬ x = 0 ∧ p = s) ∨ (¬ n = 0 ∧ (p = a ∨ p = b))) fun p l' hp hl' => ?_
    have e5 : zC T 5 (12 * p + l') = if l' = l ∧ ((¬ x = 0 ∧ p = s) ∨ (¬ n = 0 ∧ (p = a ∨ p = b))) then 0 else zC S 5 (12 * p + l') := by
      rw [hC 5 (by decide), m10 p l' hp hl', hZ 5 (by decide), w5 p l' hp hl']
      by_cases q1 : ¬ n = 0 ∧ l' = l ∧ (some a = some p ∨ some b = some p)
      · rw [if_pos q1, if_pos]
        refine ⟨q1.2.1, Or.inr ⟨q1.1, ?_⟩⟩
        rcases q1.2.2 with r | r
        · exact Or.inl (Option.some.inj r).symm
        · exact Or.inr (Option.some.inj r).symm
      · rw [if_neg q1]
        by_cases q2 : ¬ x = 0 ∧ l' = l ∧ ((none : Option Nat) = some p ∨ some s = some p)
        · rw [if_pos q2, if_pos]
          refine ⟨q2.2.1, Or.inl ⟨q2.1, ?_⟩⟩
          rcases q2.2.2 with r | r
          · cases r
          · exact (Option.some.inj r).symm
        · rw [if_neg q2, if_neg]
          rintro ⟨r1, ⟨r2, r3⟩ | ⟨r2, r3⟩⟩
          · exact q2 ⟨r2, r1, Or.inr (by rw [r3])⟩
          · refine q1 ⟨r2, r1, ?_⟩
            rcases r3 with r3 | r3
            · exact Or.inl (by rw [r3])
            · exact Or.inr (by rw [r3])
    constructor
    · rintro ⟨r1, r2⟩
      rw [e5, v21 p l' hp hl', if_pos ⟨r2, r1⟩, if_pos ⟨r2, r1⟩]; exact ⟨rfl, rfl⟩
    · intro r
      rw [e5, v21 p l' hp hl', if_neg (fun q => r ⟨q.2, q.1⟩), if_neg (fun q => r ⟨q.2, q.1⟩)]; exact ⟨rfl, rfl⟩
/-- without a belief -/
theorem WR.none0 {s l : Nat} (h : mvA S k) : WR S S none (some s) l 0 k := by
  refine ⟨fun _ _ => rfl, rfl, rfl, rfl, fun _ _ => rfl, fun _ _ => rfl, cst.rf S, fun j => ?_, fun p i' _ => ?_, fun p l' _ _ => ?_, k, Nat.le_succ _, h, fun p l' _ _ => ?_⟩
  · rw [dd_z, Int32.add_zero]
  · rw [dd_z]; split <;> rw [Int32.add_zero]
  · rw [if_neg (fun r => r.1 rfl)]
  · rw [dd_z, Int32.add_zero]
/-- releasing all of a holding, which may hold nothing any more -/
theorem CO.relA (g : CO S) {x : Nat} (hw : hwf S x) (hx : x ∈ hL S ∨ zA S 204 x = 0) : ∃ T, (f_X11_release x (zA S 204 x)).1 S = some ((), T) ∧ SF S T ∧ zL T = zL S ∧ (∀ h, zA T 204 h = if h = x then 0 else zA S 204 h) ∧ zA T 1004 = zA S 1004 ∧ zA T 1005 = zA S 1005 ∧ CO T := by
  by_cases q : x ∈ hL S
  · obtain ⟨T, t1, ⟨t2, t3, t4, t5, t6, -⟩, t7⟩ := g.rel q (d := zA S 204 x) (by rw [Int32.sub_self]; exact ⟨by decide, by decide⟩)
    exact ⟨T, t1, t2, t3, fun h => by rw [t4, Int32.sub_self], t5, t6, t7⟩
  · have z := hx.resolve_left q
    obtain ⟨T, t1, t2, t3, t4, t5, t6, t7, t8, t9⟩ := e_release g.1 g.2.1 hw (zA S 204 x)
    rw [z] at t4 t7 t8 t9
    have e204 : zA T 204 = zA S 204 := funext fun h => by
      rw [t4]; split
      · rename_i e; rw [e, Int32.sub_zero, z]
      · rfl
    have e402 : zA T 402 = zA S 402 := funext fun j => by rw [t7, Int32.sub_zero, ite_self]
    refine ⟨T, t1, t2, t3, fun h => ?_, t5, t6, ?_⟩
    · rw [e204]; split
      · rename_i e; rw [e, z]
      · rfl
    · have eH : hL T = hL S := by unfold hL; rw [t3]
      refine t2.co (by rw [eH]; exact List.Sublist.refl _) (fun y hy => by rw [e204]; rw [eH] at hy; exact (g.2.2.2.2.1 y hy).2) ?_ g
      obtain ⟨c1, c2, c3⟩ := g.2.2.2.2.2
      have hi : ∀ l, itS T l = itS S l := fun l => by unfold itS; rw [t2.2.1]
      have e1 : ∀ p l, hpc T p l = hpc S p l := fun p l => by funext z; unfold hpc; rw [t2.1 202 (by decide), t2.2.1, e204]
      have e2 : ∀ j, lnH T j = lnH S j := fun j => by funext z; unfold lnH; rw [t2.2.1, e204]
      have e3 : ∀ s i, apH T s i = apH S s i := fun s i => by funext z; unfold apH; simp only [hi]; rw [t2.1 1001 (by decide), t2.1 1003 (by decide), t2.2.1, e204]
      have a0 : ∀ s i, apD S s i x 0 = 0 := fun s i => by
        unfold apD; split
        · rfl
        · split <;> rfl
      unfold CH
      simp only [e1, e2, e3]
      rw [eH, e402, t2.2.2.2.2.2.2]
      refine ⟨fun p l hp hl => ?_, c2, fun s i hs hi => ?_⟩
      · rw [t8 p l hp hl, Int32.sub_zero, ite_self]; exact c1 p l hp hl
      · rw [t9 s i hs hi, a0, Int32.sub_zero]; exact c3 s i hs hi
theorem MVD.co {a b : Option Nat} {l : Nat} {n : Int32} (hM : MVD S A a b l n k) (g : CO S) : CO A := by
  obtain ⟨m1, m2, m3, m4, m5, m6, -⟩ := hM
  exact co_cg (fun f hf => m1 f (by omega)) m2 (by rw [m3]) ⟨m5 3 (by decide), m5 4 (by decide)⟩ (fun f hf => m6 f (by omega)) g
/-- a task is finished, up to the bill -/
theorem e_finish0 {t x0 l a b k1 : Nat} {n : Int32} (g : CO S) (h1 : zO S 1002 t = some x0) (h2 : zO S 203 x0 = some l) (h3 : zA S 202 x0 = nI a) (h4 : zA S 1003 t = nI b) (h5 : zA S 1004 t = n) (hw : hwf S x0) (hx : x0 ∈ hL S ∨ zA S 204 x0 = 0) (b1 : zA S 500 l = nI l) (b5 : zO S 501 l = some (itS S l)) (b6 : itS S l < 6) (hl : l < 12) (hm : mvA S k1) (hk : k1 < 1024) (ha : a < 28) (hb : b < 28) : ∃ A T1, MVD S A (some a) (some b) l n k1 ∧ SF A T1 ∧ zL T1 = zL A ∧ (∀ h, zA T1 204 h = if h = x0 then 0 else zA S 204 h) ∧ zA T1 1004 = zA S 1004 ∧ zA T1 1005 = zA S 1005 ∧ CO T1 ∧ (zA S 1001 t = 0 → (f_X11_finish t).1 S = some ((), pA 1118 0 (zA S 1118 0 + 3) (pA 1005 t 2 (drS T1)))) ∧ (zA S 1001 t = 1 → (f_X11_finish t).1 S = some ((), pA 1118 0 (zA S 1118 0 + 4) (pA 1005 t 2 (drS T1)))) ∧ ∀ j, zA S 1001 t = 2 → zO S 201 x0 = some j → (f_X11_finish t).1 S = some ((), pA 403 j (zA S 403 j + n) (pA 1118 0 (zA S 1118 0 + n) (pA 1005 t 2 (drS T1)))) := by
  obtain ⟨A, e1, e2⟩ := e_move (S := S) (k := k1) (a := some a) (b := some b) (l := l) n g.1 b1 b5 b6 hm hk (fun p hp => by cases hp; exact ha) (fun p hp => by cases hp; exact hb) hl
  have e1' : (f_X0_move (nI a) (nI b) l n).1 S = some ((), A) := e1
  have gA := e2.co g
  have e2' := e2
  obtain ⟨m1, m2, m3, m4, m5, m6, -⟩ := e2'
  have hwA : hwf A x0 := by
    have hi : ∀ q, itS A q = itS S q := fun q => by unfold itS; rw [m2]
    unfold hwf
    simp only [hi]
    rw [m2, m1 500 (by decide), m1 202 (by decide), m1 700 (by decide), m1 1001 (by decide), m1 1003 (by decide), m6 4 (by decide), m6 5 (by decide), m6 7 (by decide), m6 10 (by decide)]
    exact hw
  have eH : hL A = hL S := by unfold hL; rw [m3]
  obtain ⟨T1, r1, r2, r3, r4, r5, r6, r7⟩ := gA.relA hwA (by rw [eH, m1 204 (by decide)]; exact hx)
  have dr := e_drop r7.2.2.2.1
  have f1 : ∀ f, f ≠ 1005 ∧ f ≠ 7 ∧ f ≠ 204 ∧ f ≠ 402 ∧ f ≠ 1004 → zA (pA 1005 t 2 (drS T1)) f = zA S f := fun f hf => by
    rw [fAA hf.1, drS_A, r2.1 f ⟨hf.2.2.1, hf.2.2.2.1, hf.2.2.2.2, hf.1⟩, m1 f hf.2.1]
  have f4 : zA (pA 1005 t 2 (drS T1)) 1004 t = n := by rw [fAA (by decide), drS_A, r5, m1 1004 (by decide)]; exact h5
  have o1 : zO (pA 1005 t 2 (drS T1)) 201 = zO S 201 := by
    have e : zO (pA 1005 t 2 (drS T1)) = zO T1 := rfl
    rw [e, r2.2.1, m2]
  refine ⟨A, T1, e2, r2, r3, fun h => by rw [r4, m1 204 (by decide)], by rw [r5, m1 1004 (by decide)], by rw [r6, m1 1005 (by decide)], r7, fun q => ?_, fun q => ?_, fun j q hj => ?_⟩
  · simp only [f_X11_finish, r_mrd, r_mbo, h1, r_mopt, h2, r_mb, h3, h4, h5, e1', bnd_s, r1, dr, r_wA, ite_f, f1 1001 (by decide), q, f1 1118 (by decide), r_mret, ↓reduceIte]
  · have q0 : ¬ (1 : Int32) = 0 := by decide
    simp only [f_X11_finish, r_mrd, r_mbo, h1, r_mopt, h2, r_mb, h3, h4, h5, e1', bnd_s, r1, dr, r_wA, ite_f, f1 1001 (by decide), q, q0, f1 1118 (by decide), r_mret, ↓reduceIte]
  · have q0 : ¬ (2 : Int32) = 0 := by decide
    have q1 : ¬ (2 : Int32) = 1 := by decide
    have g1 : zO (pA 1118 0 (zA S 1118 0 + n) (pA 1005 t 2 (drS T1))) 201 x0 = some j := by rw [tOA, o1]; exact hj
    have g2 : zA (pA 1118 0 (zA S 1118 0 + n) (pA 1005 t 2 (drS T1))) 403 j = zA S 403 j := by rw [fAA (by decide), f1 403 (by decide)]
    have g3 : zA (pA 1118 0 (zA S 1118 0 + n) (pA 1005 t 2 (drS T1))) 1004 t = n := by rw [fAA (by decide)]; exact f4
    simp only [f_X11_finish, r_mrd, r_mbo, h1, r_mopt, h2, r_mb, h3, h4, h5, e1', bnd_s, r1, dr, r_wA, ite_f, f1 1001 (by decide), q, q0, q1, f1 1118 (by decide), f4, Int32.one_mul, g1, r_mcs, g2, g3, r_mret, ↓reduceIte]
end
