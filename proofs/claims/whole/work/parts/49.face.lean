section
variable {m : Nat} {S T : Ss} {w v : MS}
theorem STv.cg {f f' : MM (Nat × Int32)} {gm gm' : GM Unit} {cs : List (Nat × Int32)} (e : f.1 S = f'.1 S) (e' : gm w = gm' w) (h : STv GG m S w f' gm' cs) : STv GG m S w f gm cs := by
  obtain ⟨a, b, c, d, e1, e2, e3⟩ := h
  exact ⟨a, b, c, d, e.trans e1, e'.trans e2, e3⟩
theorem zO_pO {f i f' i' : Nat} {x : Option Nat} (h : f' ≠ f) : zO (pO f i x S) f' i' = zO S f' i' := if_neg fun r => h r.1
theorem zO_pA {f i : Nat} {x : Int32} : zO (pA f i x S) = zO S := rfl
theorem zA_pO {f i : Nat} {x : Option Nat} : zA (pO f i x S) = zA S := rfl
theorem Rel.onP {B k : Nat} (h : Rel B k S w) {t : Nat} (ht : t < zN S 10) (q : onT S t) : tI (zA S 1004 t) 1 99 := by
  obtain ⟨-, -, -, -, -, -, -, x, l, e1, e2, e3, e4, e5, e6, e7, -⟩ := h.ta.2.2.2 t ht
  obtain ⟨f1, f2, -⟩ := e7 q
  obtain ⟨-, c2, -, -, -, c6⟩ := h.ho.2.1 x f1
  rw [(c6 t f2).2.2.2]; exact c2
theorem Rel.empT {B k : Nat} (h : Rel B k S w) {s t : Nat} (hs : s < 18) (ht : t < zN S 10) (q : onT S t) (q3 : zA S 1003 t = nI s) (q2 : ¬ zA S 1001 t = 2) : ¬ emp S s := by
  intro he
  have hi := (h.lo.2.2.2.1 _ (h.lotI ht).1).2.2.2.2.2.1
  have e := (h.z4 hs hi).mp (he _ hi).2 t ht
  unfold apc at e
  rw [if_pos ⟨q, q2, q3, rfl⟩] at e
  have := tI_of (h.onP ht q)
  rw [e] at this
  exact absurd this.1 (by decide)
/-- a face with its two levels -/
def fT (S : Ss) (s : Nat) (o : Option Nat) (x y : Int32) : Ss := pA 904 s y (pA 903 s x (pO 902 s o S))
def fcV (w : MS) (s : Nat) (o : Option Nat) (x y : Int32) : MS := mSA 8 s y (mSA 7 s x (mSA 6 s (fcI o) w))
theorem fT_A {s : Nat} {o : Option Nat} {x y : Int32} {f i : Nat} (h : f ≠ 903 ∧ f ≠ 904) : zA (fT S s o x y) f i = zA S f i := by
  unfold fT; rw [zA_pA h.2, zA_pA h.1, zA_pO]
theorem fT_O {s : Nat} {o : Option Nat} {x y : Int32} {f i : Nat} (h : f ≠ 902) : zO (fT S s o x y) f i = zO S f i := by
  unfold fT; rw [zO_pA, zO_pA, zO_pO h]
theorem fT_902 {s : Nat} {o : Option Nat} {x y : Int32} {i : Nat} : zO (fT S s o x y) 902 i = if i = s then o else zO S 902 i := by
  unfold fT; rw [zO_pA, zO_pA]
  show u2 902 s o (zO S) 902 i = _
  rw [u2_at]; simp only [true_and]
theorem Rel.face {B k : Nat} (h : Rel B k S w) {s : Nat} (hs : s < 18) (he : emp S s) {o : Option Nat} (ho : ∀ i, o = some i → i < 6) {x y : Int32} (hx : tI x 0 99) (hy : tI y 0 99) : Rel B k (fT S s o x y) (fcV w s o x y) := by
  have sl : g_sl (fT S s o x y) (fcV w s o x y) := by
    intro q hq
    obtain ⟨b1, b2, b3, b4, b5, b6, b7, b8, b9⟩ := h.sl q hq
    rw [fT_A (by decide), fT_A (by decide), fT_902]
    show mA w 4 q = zA S 900 q ∧ mA w 5 q = zA S 901 q ∧ (if 6 = 8 ∧ q = s then y else if 6 = 7 ∧ q = s then x else if 6 = 6 ∧ q = s then fcI o else mA w 6 q) = fcI (if q = s then o else zO S 902 q) ∧ (if 7 = 8 ∧ q = s then y else if 7 = 7 ∧ q = s then x else if 7 = 6 ∧ q = s then fcI o else mA w 7 q) = u2 904 s y (u2 903 s x (zA S)) 903 q ∧ (if 8 = 8 ∧ q = s then y else if 8 = 7 ∧ q = s then x else if 8 = 6 ∧ q = s then fcI o else mA w 8 q) = u2 904 s y (u2 903 s x (zA S)) 904 q ∧ (∀ i, (if q = s then o else zO S 902 q) = some i → i < 6) ∧ tI (zA S 901 q) 1 200 ∧ tI (u2 904 s y (u2 903 s x (zA S)) 903 q) 0 99 ∧ tI (u2 904 s y (u2 903 s x (zA S)) 904 q) 0 99
    simp only [u2_at, Nat.reduceEqDiff, false_and, true_and, ↓reduceIte]
    by_cases r : q = s
    · simp only [r, ↓reduceIte]
      exact ⟨r ▸ b1, r ▸ b2, trivial, trivial, trivial, ho, r ▸ b7, hx, hy⟩
    · simp only [r, ↓reduceIte]
      exact ⟨b1, b2, b3, b4, b5, b6, b7, b8, b9⟩
  have ap : g_ap (fT S s o x y) (fcV w s o x y) := by
    obtain ⟨a1, a2⟩ := h.ap
    have eL : ∀ t, lotT (fT S s o x y) t = lotT S t := fun t => by unfold lotT; rw [fT_O (by decide), fT_O (by decide)]
    have eI : ∀ l, itS (fT S s o x y) l = itS S l := fun t => by unfold itS; rw [fT_O (by decide)]
    refine And.intro a1 fun t q i ht hq hon e3 e1 => ?_
    have ht' : t < zN S 10 := ht
    have hon' : onT S t := hon
    rw [fT_A (by decide)] at e3 e1
    rw [fT_902, fT_A (by decide), eL, eI]
    by_cases r : q = s
    · exact absurd he (h.empT hs ht' hon' (r ▸ e3) e1)
    · rw [if_neg r]
      exact a2 t q i ht' hq hon' e3 e1
  exact ⟨sl, h.it, h.ba, h.sc, h.lo, h.be, h.no, h.ca, h.aw, h.or, h.li, h.bk, h.nn, h.tr, h.db, h.mv, h.ho, h.hs, h.hm, h.ta, ap, h.ro, h.st, h.bx⟩
end
