/-! THE MODEL WITHOUT ADDRESSES -/
abbrev MS : Type := (Nat → Int32) × (Nat → Nat → Int32)
def mI (w : MS) (k : Nat) : Int32 := w.1 k
def mA (w : MS) (k j : Nat) : Int32 := w.2 k j
def mSI (k : Nat) (v : Int32) (w : MS) : MS := (fun j => if j = k then v else w.1 j, w.2)
def mSA (k i : Nat) (v : Int32) (w : MS) : MS := (w.1, fun j q => if j = k ∧ q = i then v else w.2 j q)
def mL (k : Nat) : Nat := match k with
  | 4 => 18
  | 5 => 18
  | 6 => 18
  | 7 => 18
  | 8 => 18
  | 9 => 6
  | 10 => 6
  | 11 => 6
  | 12 => 6
  | 13 => 6
  | 14 => 16
  | 16 => 12
  | 17 => 12
  | 18 => 12
  | 19 => 336
  | 20 => 216
  | 21 => 216
  | 23 => 8
  | 24 => 8
  | 25 => 8
  | 26 => 96
  | 28 => 8
  | 29 => 8
  | 30 => 8
  | 31 => 8
  | 32 => 8
  | 33 => 96
  | 34 => 2400
  | 35 => 8
  | 36 => 24
  | 37 => 24
  | 38 => 24
  | 40 => 2400
  | 41 => 2400
  | 42 => 2400
  | 43 => 2400
  | 44 => 2400
  | 46 => 60
  | 47 => 60
  | 48 => 60
  | 49 => 60
  | 50 => 60
  | 51 => 60
  | 52 => 60
  | 53 => 60
  | 54 => 60
  | 55 => 3
  | 56 => 3
  | 57 => 3
  | 58 => 180
  | 59 => 3
  | 60 => 6
  | 61 => 300
  | 62 => 300
  | 63 => 300
  | 64 => 300
  | _ => 0
def isA (k : Nat) : Bool := decide (0 < mL k)
def absM (m : Nat) (arr : Nat → Nat) (σ : St) : MS := (fun k => sI σ (1200 + k) m, fun k => sA σ (arr k))
def RF (m : Nat) (arr : Nat → Nat) (σ : St) : Prop := (∀ k, isA k = true → sR σ (1200 + k) m = some (arr k)) ∧ (∀ k, isA k = true → sL σ (arr k) = mL k) ∧ ∀ k j, arr k = arr j → k = j
theorem RF.ref {m : Nat} {arr : Nat → Nat} {σ : St} (h : RF m arr σ) (k : Nat) (hk : isA k = true) : sR σ (1200 + k) m = some (arr k) := h.1 k hk
theorem RF.len {m : Nat} {arr : Nat → Nat} {σ : St} (h : RF m arr σ) (k : Nat) (hk : isA k = true) : sL σ (arr k) = mL k := h.2.1 k hk
theorem RF.inj {m : Nat} {arr : Nat → Nat} {σ : St} (h : RF m arr σ) (k j : Nat) (e : arr k = arr j) : k = j := h.2.2 k j e
theorem RF.setI {m : Nat} {arr : Nat → Nat} {σ s : St} {f a : Nat} {v : Int32} (h : RF m arr σ) (e : s = setI f a v σ) : RF m arr s := by subst e; exact ⟨h.ref, h.len, h.inj⟩
theorem RF.setA {m : Nat} {arr : Nat → Nat} {σ s : St} {a i : Nat} {v : Int32} (h : RF m arr σ) (e : s = setA a i v σ) : RF m arr s := by subst e; exact ⟨h.ref, h.len, h.inj⟩
theorem abs_setI {m : Nat} {arr : Nat → Nat} {σ s : St} {v : Int32} (k : Nat) (_ : True) (e : s = setI (1200 + k) m v σ) : absM m arr s = mSI k v (absM m arr σ) := by
  subst e
  refine Prod.ext (funext fun j => ?_) rfl
  show sI (setI (1200 + k) m v σ) (1200 + j) m = if j = k then v else sI σ (1200 + j) m
  rw [sI_setI, u2_at]
  by_cases q : j = k
  · rw [if_pos q, if_pos ⟨by rw [q], rfl⟩]
  · rw [if_neg q, if_neg (fun h => q (by omega))]
theorem abs_setA {m : Nat} {arr : Nat → Nat} {σ s : St} {i : Nat} {v : Int32} (h : RF m arr σ) (k : Nat) (_ : True) (e : s = setA (arr k) i v σ) : absM m arr s = mSA k i v (absM m arr σ) := by
  subst e
  refine Prod.ext rfl (funext fun j => funext fun q => ?_)
  show sA (setA (arr k) i v σ) (arr j) q = if j = k ∧ q = i then v else sA σ (arr j) q
  rw [sA_setA, u2_at]
  by_cases e1 : j = k
  · subst e1
    by_cases e2 : q = i
    · rw [if_pos ⟨rfl, e2⟩, if_pos ⟨rfl, e2⟩]
    · rw [if_neg (fun h => e2 h.2), if_neg (fun h => e2 h.2)]
  · rw [if_neg (fun q9 => e1 (h.inj _ _ q9.1)), if_neg (fun q9 => e1 q9.1)]
def p_X12_bill  (w : MS) (Q : Int32 → MS → Prop) : Prop :=
    ∀ w51 : MS, w51 = mSI 0 0 w → Q (mI w51 2) w51
def p_X12_books (x1 : Int32) (x2 : Int32) (x3 : Int32) (w : MS) (Q : MS → Prop) : Prop :=
    ∀ x52 : Int32, x52 = (12 * x1) + x2 → vp_in x52 (mL 19) ∧ vp_in x52 (mL 19) ∧ ∀ w56 : MS, w56 = mSA 19 x52.toNatClampNeg ((mA w 19 x52.toNatClampNeg) + x3) w → (18 ≤ x1 → Q w56) ∧ (¬ 18 ≤ x1 → (x3 = 0 → Q w56) ∧ (¬ x3 = 0 → vp_in ((12 * x1) + x2) (mL 21) ∧ ∀ w62 : MS, w62 = mSA 21 ((12 * x1) + x2).toNatClampNeg (-1) w56 → Q w62))
def p_X12_cameOf_36 (Q : Int32 → MS → Prop) (K5 : Int32 → Int32 → Int32 → Int32 → MS → Prop) (x1 : Int32) (x2 : Int32) (x4 : Int32) (xs0 : Int32) (xs1 : Int32) (w : MS) : Prop :=
    (¬ xs1 = x2 → ∀ x60 : Int32, x60 = xs0 + 0 → K5 x1 x2 x60 (x4 + 1) w) ∧ (xs1 = x2 → vp_in ((12 * x1) + x4) (mL 26) ∧ ∀ x64 : Int32, x64 = xs0 + (mA w 26 ((12 * x1) + x4).toNatClampNeg) → K5 x1 x2 x64 (x4 + 1) w)
def p_X12_cameOf_5 (Q : Int32 → MS → Prop) : Nat → Int32 → Int32 → Int32 → Int32 → MS → Prop
  | 0, _, _, _, _, _ => False
  | f + 1, x1, x2, x3, x4, w =>
    ((mI w 15) ≤ x4 → Q x3 w) ∧ (¬ (mI w 15) ≤ x4 → vp_in x4 (mL 16) ∧ vp_in x1 (mL 23) ∧ (¬ (mA w 16 x4.toNatClampNeg) = (mA w 23 x1.toNatClampNeg) → p_X12_cameOf_36 Q (p_X12_cameOf_5 Q  f) x1 x2 x4 x3 0 w) ∧ ((mA w 16 x4.toNatClampNeg) = (mA w 23 x1.toNatClampNeg) → p_X12_cameOf_36 Q (p_X12_cameOf_5 Q  f) x1 x2 x4 x3 1 w))
def p_X12_cameOf (x1 : Int32) (x2 : Int32) (w : MS) (Q : Int32 → MS → Prop) : Prop :=
    ∃ f65 : Nat, p_X12_cameOf_5 Q f65 x1 x2 0 0 w
def p_X12_ends_72 (Q : MS → Prop) : Nat → Int32 → Int32 → Int32 → Int32 → MS → Prop
  | 0, _, _, _, _, _ => False
  | f + 1, x1, x3, x4, x5, w =>
    vp_in x3 (mL 59) ∧ ((mA w 59 x3.toNatClampNeg) ≤ x5 → vp_in x3 (mL 59) ∧ ∀ w68 : MS, w68 = mSA 59 x3.toNatClampNeg x4 w → Q w68) ∧ (¬ (mA w 59 x3.toNatClampNeg) ≤ x5 → vp_in ((60 * x3) + x5) (mL 58) ∧ ∀ x72 : Int32, x72 = mA w 58 ((60 * x3) + x5).toNatClampNeg → (x72 = x1 → p_X12_ends_72 Q f x1 x3 x4 (x5 + 1) w) ∧ (¬ x72 = x1 → vp_in ((60 * x3) + x4) (mL 58) ∧ ∀ w77 : MS, w77 = mSA 58 ((60 * x3) + x4).toNatClampNeg x72 w → p_X12_ends_72 Q f x1 x3 (x4 + 1) (x5 + 1) w77))
def p_X12_ends_54 (Q : MS → Prop) (K17 : Int32 → Int32 → Int32 → MS → Prop) (x1 : Int32) (x3 : Int32) (x4 : Int32) (os0 : Nat) (xs1 : Int32) (xs2 : Int32) (w : MS) : Prop :=
    isA os0 = true ∧ vp_in xs1 (mL os0) ∧ ∀ w89 : MS, w89 = mSA os0 xs1.toNatClampNeg xs2 w → K17 x1 x3 (x4 + 1) w89
def p_X12_ends_17 (Q : MS → Prop) : Nat → Int32 → Int32 → Int32 → MS → Prop
  | 0, _, _, _, _ => False
  | f + 1, x1, x3, x4, w =>
    ((mI w 39) ≤ x4 → (x3 = (-1) → Q w) ∧ (¬ x3 = (-1) → ∃ f78 : Nat, p_X12_ends_72 Q f78 x1 x3 0 0 w)) ∧ (¬ (mI w 39) ≤ x4 → vp_in x4 (mL 44) ∧ (¬ (mA w 44 x4.toNatClampNeg) = x1 → vp_in x4 (mL 43) ∧ p_X12_ends_54 Q (p_X12_ends_17 Q  f) x1 x3 x4 43 x4 (mA w 43 x4.toNatClampNeg) w) ∧ ((mA w 44 x4.toNatClampNeg) = x1 → p_X12_ends_54 Q (p_X12_ends_17 Q  f) x1 x3 x4 43 x4 0 w))
def p_X12_ends (x1 : Int32) (x2 : Int32) (w : MS) (Q : MS → Prop) : Prop :=
    vp_in x1 (mL 53) ∧ ∀ x54 : Int32, x54 = mA w 53 x1.toNatClampNeg → vp_in x1 (mL 52) ∧ ∀ w58 : MS, w58 = mSA 52 x1.toNatClampNeg x2 w → ∃ f90 : Nat, p_X12_ends_17 Q f90 x1 x54 0 w58
def p_X12_fitsInto_78 (Q : Int32 → MS → Prop) (K45 : Int32 → Int32 → Int32 → Int32 → MS → Prop) (x1 : Int32) (x2 : Int32) (x3 : Int32) (x4 : Int32) (xs0 : Int32) (w : MS) : Prop :=
    (x3 = 0 → K45 x1 x2 0 (x4 + 1) w) ∧ (¬ x3 = 0 → (xs0 = 0 → K45 x1 x2 1 (x4 + 1) w) ∧ (¬ xs0 = 0 → vp_in x4 (mL 12) ∧ vp_in x2 (mL 12) ∧ vp_in ((4 * (mA w 12 x4.toNatClampNeg)) + (mA w 12 x2.toNatClampNeg)) (mL 14) ∧ (¬ (mA w 14 ((4 * (mA w 12 x4.toNatClampNeg)) + (mA w 12 x2.toNatClampNeg)).toNatClampNeg) = 0 → K45 x1 x2 0 (x4 + 1) w) ∧ ((mA w 14 ((4 * (mA w 12 x4.toNatClampNeg)) + (mA w 12 x2.toNatClampNeg)).toNatClampNeg) = 0 → K45 x1 x2 1 (x4 + 1) w)))
def p_X12_fitsInto_77 (Q : Int32 → MS → Prop) (K45 : Int32 → Int32 → Int32 → Int32 → MS → Prop) (x1 : Int32) (x2 : Int32) (x3 : Int32) (x4 : Int32) (w : MS) : Prop :=
    p_X12_fitsInto_78 Q K45 x1 x2 x3 x4 0 w
def p_X12_fitsInto_45 (Q : Int32 → MS → Prop) : Nat → Int32 → Int32 → Int32 → Int32 → MS → Prop
  | 0, _, _, _, _, _ => False
  | f + 1, x1, x2, x3, x4, w =>
    (6 ≤ x4 → (x3 = 0 ∨ x3 = 1) ∧ Q x3 w) ∧ (¬ 6 ≤ x4 → vp_in x1 (mL 64) ∧ (¬ (((mA w 64 x1.toNatClampNeg) >>> (x4 &&& 31)) &&& 1) = 1 → p_X12_fitsInto_77 Q (p_X12_fitsInto_45 Q  f) x1 x2 x3 x4 w) ∧ ((((mA w 64 x1.toNatClampNeg) >>> (x4 &&& 31)) &&& 1) = 1 → (x4 = x2 → p_X12_fitsInto_77 Q (p_X12_fitsInto_45 Q  f) x1 x2 x3 x4 w) ∧ (¬ x4 = x2 → p_X12_fitsInto_78 Q (p_X12_fitsInto_45 Q  f) x1 x2 x3 x4 1 w)))
def p_X12_fitsInto (x1 : Int32) (x2 : Int32) (w : MS) (Q : Int32 → MS → Prop) : Prop :=
    vp_in x1 (mL 61) ∧ vp_in x2 (mL 10) ∧ (30 < ((mA w 61 x1.toNatClampNeg) + (mA w 10 x2.toNatClampNeg)) → ∃ f76 : Nat, p_X12_fitsInto_45 Q f76 x1 x2 0 0 w) ∧ (¬ 30 < ((mA w 61 x1.toNatClampNeg) + (mA w 10 x2.toNatClampNeg)) → vp_in x1 (mL 62) ∧ vp_in x2 (mL 11) ∧ (50 < ((mA w 62 x1.toNatClampNeg) + (mA w 11 x2.toNatClampNeg)) → ∃ f84 : Nat, p_X12_fitsInto_45 Q f84 x1 x2 0 0 w) ∧ (¬ 50 < ((mA w 62 x1.toNatClampNeg) + (mA w 11 x2.toNatClampNeg)) → ∃ f85 : Nat, p_X12_fitsInto_45 Q f85 x1 x2 1 0 w))
def p_X12_gives (x1 : Int32) (x2 : Int32) (w : MS) (Q : MS → Prop) : Prop :=
    vp_in x1 (mL 59) ∧ vp_in ((60 * x1) + (mA w 59 x1.toNatClampNeg)) (mL 58) ∧ ∀ w57 : MS, w57 = mSA 58 ((60 * x1) + (mA w 59 x1.toNatClampNeg)).toNatClampNeg x2 w → vp_in x1 (mL 59) ∧ vp_in x1 (mL 59) ∧ ∀ w62 : MS, w62 = mSA 59 x1.toNatClampNeg ((mA w57 59 x1.toNatClampNeg) + 1) w57 → vp_in x2 (mL 52) ∧ ∀ w66 : MS, w66 = mSA 52 x2.toNatClampNeg 1 w62 → vp_in x2 (mL 53) ∧ ∀ w70 : MS, w70 = mSA 53 x2.toNatClampNeg x1 w66 → Q w70
def p_X12_holds (x1 : Int32) (w : MS) (Q : Int32 → MS → Prop) : Prop :=
    ∀ w51 : MS, w51 = mSI 0 x1 w → (¬ x1 = 0 → Q 0 w51) ∧ (x1 = 0 → Q 1 w51)
def p_X12_isFor (x1 : Int32) (x2 : Int32) (w : MS) (Q : Int32 → MS → Prop) : Prop :=
    vp_in x1 (mL 44) ∧ (¬ (mA w 44 x1.toNatClampNeg) = (-1) → Q 0 w) ∧ ((mA w 44 x1.toNatClampNeg) = (-1) → vp_in x1 (mL 40) ∧ (¬ ((x2 >>> (((mA w 40 x1.toNatClampNeg) / 3) &&& 31)) &&& 1) = 1 → Q 0 w) ∧ (((x2 >>> (((mA w 40 x1.toNatClampNeg) / 3) &&& 31)) &&& 1) = 1 → Q 1 w))
def p_X12_isHeldByOther_5 (Q : Int32 → MS → Prop) : Nat → Int32 → Int32 → Int32 → Int32 → MS → Prop
  | 0, _, _, _, _, _ => False
  | f + 1, x1, x2, x3, x4, w =>
    (3 ≤ x4 → (x3 = 0 ∨ x3 = 1) ∧ Q x3 w) ∧ (¬ 3 ≤ x4 → (¬ x3 = 0 → p_X12_isHeldByOther_5 Q f x1 x2 1 (x4 + 1) w) ∧ (x3 = 0 → (x4 = x1 → p_X12_isHeldByOther_5 Q f x1 x2 0 (x4 + 1) w) ∧ (¬ x4 = x1 → vp_in x4 (mL 55) ∧ (¬ (mA w 55 x4.toNatClampNeg) = x2 → p_X12_isHeldByOther_5 Q f x1 x2 0 (x4 + 1) w) ∧ ((mA w 55 x4.toNatClampNeg) = x2 → p_X12_isHeldByOther_5 Q f x1 x2 1 (x4 + 1) w))))
def p_X12_isHeldByOther (x1 : Int32) (x2 : Int32) (w : MS) (Q : Int32 → MS → Prop) : Prop :=
    ∃ f58 : Nat, p_X12_isHeldByOther_5 Q f58 x1 x2 0 0 w
def p_X12_isIn (x0 : Int32) (x1 : Int32) (x2 : Int32) (w : MS) (Q : Int32 → MS → Prop) : Prop :=
    (x0 < x1 → Q 0 w) ∧ (¬ x0 < x1 → (x2 < x0 → Q 0 w) ∧ (¬ x2 < x0 → Q 1 w))
def p_X12_isOn (x1 : Int32) (w : MS) (Q : Int32 → MS → Prop) : Prop :=
    vp_in x1 (mL 52) ∧ ((mA w 52 x1.toNatClampNeg) = 0 → Q 1 w) ∧ (¬ (mA w 52 x1.toNatClampNeg) = 0 → vp_in x1 (mL 52) ∧ (¬ (mA w 52 x1.toNatClampNeg) = 1 → Q 0 w) ∧ ((mA w 52 x1.toNatClampNeg) = 1 → Q 1 w))
def p_X12_itemIn_5 (Q : Int32 → MS → Prop) : Nat → Int32 → Int32 → Int32 → Int32 → MS → Prop
  | 0, _, _, _, _, _ => False
  | f + 1, x1, x2, x3, x4, w =>
    ((mI w 15) ≤ x4 → Q x3 w) ∧ (¬ (mI w 15) ≤ x4 → vp_in x4 (mL 16) ∧ (¬ (mA w 16 x4.toNatClampNeg) = x2 → ∀ x56 : Int32, x56 = x3 + 0 → p_X12_itemIn_5 Q f x1 x2 x56 (x4 + 1) w) ∧ ((mA w 16 x4.toNatClampNeg) = x2 → vp_in ((12 * x1) + x4) (mL 19) ∧ ∀ x60 : Int32, x60 = x3 + (mA w 19 ((12 * x1) + x4).toNatClampNeg) → p_X12_itemIn_5 Q f x1 x2 x60 (x4 + 1) w))
def p_X12_itemIn (x1 : Int32) (x2 : Int32) (w : MS) (Q : Int32 → MS → Prop) : Prop :=
    ∃ f61 : Nat, p_X12_itemIn_5 Q f61 x1 x2 0 0 w
def p_X12_lacking_16 (Q : Int32 → MS → Prop) : Nat → Int32 → Int32 → Int32 → MS → Prop
  | 0, _, _, _, _ => False
  | f + 1, x1, x2, x3, w =>
    ((mI w 39) ≤ x3 → Q x2 w) ∧ (¬ (mI w 39) ≤ x3 → vp_in x3 (mL 40) ∧ (¬ (mA w 40 x3.toNatClampNeg) = x1 → ∀ x63 : Int32, x63 = x2 - 0 → p_X12_lacking_16 Q f x1 x63 (x3 + 1) w) ∧ ((mA w 40 x3.toNatClampNeg) = x1 → vp_in x3 (mL 43) ∧ ∀ x67 : Int32, x67 = x2 - (mA w 43 x3.toNatClampNeg) → p_X12_lacking_16 Q f x1 x67 (x3 + 1) w))
def p_X12_lacking (x1 : Int32) (w : MS) (Q : Int32 → MS → Prop) : Prop :=
    vp_in x1 (mL 37) ∧ vp_in x1 (mL 38) ∧ ∀ x57 : Int32, x57 = (mA w 37 x1.toNatClampNeg) - (mA w 38 x1.toNatClampNeg) → ∃ f68 : Nat, p_X12_lacking_16 Q f68 x1 x57 0 w
def p_X12_less (x0 : Int32) (x1 : Int32) (w : MS) (Q : Int32 → MS → Prop) : Prop :=
    (x1 ≤ x0 → Q x1 w) ∧ (¬ x1 ≤ x0 → Q x0 w)
def p_X12_makes (x1 : Int32) (x2 : Int32) (x3 : Int32) (x4 : Int32) (x5 : Int32) (x6 : Int32) (w : MS) (Q : Int32 → MS → Prop) : Prop :=
    vp_in (mI w 45) (mL 46) ∧ ∀ w54 : MS, w54 = mSA 46 (mI w 45).toNatClampNeg x1 w → vp_in (mI w54 45) (mL 47) ∧ ∀ w58 : MS, w58 = mSA 47 (mI w54 45).toNatClampNeg x2 w54 → vp_in (mI w58 45) (mL 48) ∧ ∀ w62 : MS, w62 = mSA 48 (mI w58 45).toNatClampNeg x3 w58 → vp_in (mI w62 45) (mL 49) ∧ ∀ w66 : MS, w66 = mSA 49 (mI w62 45).toNatClampNeg x4 w62 → vp_in (mI w66 45) (mL 50) ∧ ∀ w70 : MS, w70 = mSA 50 (mI w66 45).toNatClampNeg x5 w66 → vp_in (mI w70 45) (mL 51) ∧ ∀ w74 : MS, w74 = mSA 51 (mI w70 45).toNatClampNeg x6 w70 → vp_in (mI w74 45) (mL 52) ∧ ∀ w78 : MS, w78 = mSA 52 (mI w74 45).toNatClampNeg 0 w74 → vp_in (mI w78 45) (mL 53) ∧ ∀ w82 : MS, w82 = mSA 53 (mI w78 45).toNatClampNeg (-1) w78 → vp_in (mI w82 45) (mL 54) ∧ ∀ w86 : MS, w86 = mSA 54 (mI w82 45).toNatClampNeg 0 w82 → ∀ w87 : MS, w87 = mSI 45 ((mI w86 45) + 1) w86 → Q ((mI w87 45) - 1) w87
def p_X12_nextLot_95 (Q : Int32 → MS → Prop) (K5 : Int32 → Int32 → Int32 → Int32 → MS → Prop) (x1 : Int32) (x2 : Int32) (x3 : Int32) (x4 : Int32) (xs0 : Int32) (w : MS) : Prop :=
    (xs0 = 0 → K5 x1 x2 x3 (x4 + 1) w) ∧ (¬ xs0 = 0 → (x3 = (-1) → K5 x1 x2 x4 (x4 + 1) w) ∧ (¬ x3 = (-1) → vp_in x4 (mL 17) ∧ vp_in x3 (mL 17) ∧ ((mA w 17 x3.toNatClampNeg) ≤ (mA w 17 x4.toNatClampNeg) → K5 x1 x2 x3 (x4 + 1) w) ∧ (¬ (mA w 17 x3.toNatClampNeg) ≤ (mA w 17 x4.toNatClampNeg) → K5 x1 x2 x4 (x4 + 1) w)))
def p_X12_nextLot_94 (Q : Int32 → MS → Prop) (K5 : Int32 → Int32 → Int32 → Int32 → MS → Prop) (x1 : Int32) (x2 : Int32) (x3 : Int32) (x4 : Int32) (w : MS) : Prop :=
    p_X12_nextLot_95 Q K5 x1 x2 x3 x4 0 w
def p_X12_nextLot_62 (Q : Int32 → MS → Prop) (K5 : Int32 → Int32 → Int32 → Int32 → MS → Prop) (x1 : Int32) (x2 : Int32) (x3 : Int32) (x4 : Int32) (xs0 : Int32) (w : MS) : Prop :=
    vp_in x4 (mL 16) ∧ (¬ (mA w 16 x4.toNatClampNeg) = x1 → p_X12_nextLot_94 Q K5 x1 x2 x3 x4 w) ∧ ((mA w 16 x4.toNatClampNeg) = x1 → vp_in x4 (mL 18) ∧ (¬ (mA w 18 x4.toNatClampNeg) = 0 → p_X12_nextLot_94 Q K5 x1 x2 x3 x4 w) ∧ ((mA w 18 x4.toNatClampNeg) = 0 → (xs0 = 0 → p_X12_nextLot_94 Q K5 x1 x2 x3 x4 w) ∧ (¬ xs0 = 0 → p_X12_nextLot_95 Q K5 x1 x2 x3 x4 1 w)))
def p_X12_nextLot_61 (Q : Int32 → MS → Prop) (K5 : Int32 → Int32 → Int32 → Int32 → MS → Prop) (x1 : Int32) (x2 : Int32) (x3 : Int32) (x4 : Int32) (w : MS) : Prop :=
    p_X12_nextLot_62 Q K5 x1 x2 x3 x4 0 w
def p_X12_nextLot_5 (Q : Int32 → MS → Prop) : Nat → Int32 → Int32 → Int32 → Int32 → MS → Prop
  | 0, _, _, _, _, _ => False
  | f + 1, x1, x2, x3, x4, w =>
    ((mI w 15) ≤ x4 → Q x3 w) ∧ (¬ (mI w 15) ≤ x4 → (x2 = (-1) → p_X12_nextLot_62 Q (p_X12_nextLot_5 Q  f) x1 x2 x3 x4 1 w) ∧ (¬ x2 = (-1) → vp_in x4 (mL 17) ∧ vp_in x2 (mL 17) ∧ ((mA w 17 x2.toNatClampNeg) < (mA w 17 x4.toNatClampNeg) → p_X12_nextLot_62 Q (p_X12_nextLot_5 Q  f) x1 x2 x3 x4 1 w) ∧ (¬ (mA w 17 x2.toNatClampNeg) < (mA w 17 x4.toNatClampNeg) → vp_in x4 (mL 17) ∧ vp_in x2 (mL 17) ∧ (¬ (mA w 17 x4.toNatClampNeg) = (mA w 17 x2.toNatClampNeg) → p_X12_nextLot_61 Q (p_X12_nextLot_5 Q  f) x1 x2 x3 x4 w) ∧ ((mA w 17 x4.toNatClampNeg) = (mA w 17 x2.toNatClampNeg) → (x4 ≤ x2 → p_X12_nextLot_61 Q (p_X12_nextLot_5 Q  f) x1 x2 x3 x4 w) ∧ (¬ x4 ≤ x2 → p_X12_nextLot_62 Q (p_X12_nextLot_5 Q  f) x1 x2 x3 x4 1 w)))))
def p_X12_nextLot (x1 : Int32) (x2 : Int32) (w : MS) (Q : Int32 → MS → Prop) : Prop :=
    ∃ f86 : Nat, p_X12_nextLot_5 Q f86 x1 x2 (-1) 0 w
def p_X12_nextOf_4 (Q : Int32 → MS → Prop) : Nat → Int32 → Int32 → Int32 → MS → Prop
  | 0, _, _, _, _ => False
  | f + 1, x1, x2, x3, w =>
    (3 ≤ x3 → Q x2 w) ∧ (¬ 3 ≤ x3 → vp_in x1 (mL 57) ∧ ((mA w 57 x1.toNatClampNeg) = (-1) → p_X12_nextOf_4 Q f x1 x2 (x3 + 1) w) ∧ (¬ (mA w 57 x1.toNatClampNeg) = (-1) → vp_in x3 (mL 55) ∧ vp_in x1 (mL 57) ∧ (¬ (mA w 55 x3.toNatClampNeg) = (mA w 57 x1.toNatClampNeg) → p_X12_nextOf_4 Q f x1 x2 (x3 + 1) w) ∧ ((mA w 55 x3.toNatClampNeg) = (mA w 57 x1.toNatClampNeg) → p_X12_nextOf_4 Q f x1 x3 (x3 + 1) w)))
def p_X12_nextOf (x1 : Int32) (w : MS) (Q : Int32 → MS → Prop) : Prop :=
    ∃ f63 : Nat, p_X12_nextOf_4 Q f63 x1 (-1) 0 w
def p_X12_slotAt (x0 : Int32) (w : MS) (Q : Int32 → MS → Prop) : Prop :=
    (¬ (x0 / 6) = 1 → Q x0 w) ∧ ((x0 / 6) = 1 → Q (17 - x0) w)
def p_X12_standstills  (w : MS) (Q : Int32 → MS → Prop) : Prop :=
    ∀ w51 : MS, w51 = mSI 0 0 w → Q (mI w51 3) w51
def p_X12_tasks  (w : MS) (Q : Int32 → MS → Prop) : Prop :=
    ∀ w51 : MS, w51 = mSI 0 0 w → Q (mI w51 45) w51
def p_X12_thrown  (w : MS) (Q : Int32 → MS → Prop) : Prop :=
    Q (mI w 0) w
def p_X12_tidies_4 (Q : MS → Prop) : Nat → Int32 → Int32 → MS → Prop
  | 0, _, _, _ => False
  | f + 1, x1, x2, w =>
    ((mI w 39) ≤ x2 → ∀ w52 : MS, w52 = mSI 39 x1 w → Q w52) ∧ (¬ (mI w 39) ≤ x2 → vp_in x2 (mL 43) ∧ ((mA w 43 x2.toNatClampNeg) ≤ 0 → p_X12_tidies_4 Q f x1 (x2 + 1) w) ∧ (¬ (mA w 43 x2.toNatClampNeg) ≤ 0 → vp_in x2 (mL 40) ∧ vp_in x1 (mL 40) ∧ ∀ w63 : MS, w63 = mSA 40 x1.toNatClampNeg (mA w 40 x2.toNatClampNeg) w → vp_in x2 (mL 41) ∧ vp_in x1 (mL 41) ∧ ∀ w70 : MS, w70 = mSA 41 x1.toNatClampNeg (mA w63 41 x2.toNatClampNeg) w63 → vp_in x2 (mL 42) ∧ vp_in x1 (mL 42) ∧ ∀ w77 : MS, w77 = mSA 42 x1.toNatClampNeg (mA w70 42 x2.toNatClampNeg) w70 → vp_in x2 (mL 43) ∧ vp_in x1 (mL 43) ∧ ∀ w84 : MS, w84 = mSA 43 x1.toNatClampNeg (mA w77 43 x2.toNatClampNeg) w77 → vp_in x2 (mL 44) ∧ vp_in x1 (mL 44) ∧ ∀ w91 : MS, w91 = mSA 44 x1.toNatClampNeg (mA w84 44 x2.toNatClampNeg) w84 → p_X12_tidies_4 Q f (x1 + 1) (x2 + 1) w91))
def p_X12_tidies  (w : MS) (Q : MS → Prop) : Prop :=
    ∃ f92 : Nat, p_X12_tidies_4 Q f92 0 0 w
def p_X12_arePieces (x0 : Int32) (w : MS) (Q : Int32 → MS → Prop) : Prop :=
    p_X12_isIn x0 1 99 w (fun x51 w52 => (x51 = 0 ∨ x51 = 1) ∧ Q x51 w52)
def p_X12_heldAt_79 (Q : Int32 → MS → Prop) : Nat → Int32 → Int32 → Int32 → Int32 → MS → Prop
  | 0, _, _, _, _, _ => False
  | f + 1, x1, x2, x3, x4, w =>
    ((mI w 39) ≤ x4 → Q x3 w) ∧ (¬ (mI w 39) ≤ x4 → vp_in x4 (mL 41) ∧ (¬ (mA w 41 x4.toNatClampNeg) = x1 → ∀ x57 : Int32, x57 = x3 + 0 → p_X12_heldAt_79 Q f x1 x2 x57 (x4 + 1) w) ∧ ((mA w 41 x4.toNatClampNeg) = x1 → vp_in x4 (mL 42) ∧ (¬ (mA w 42 x4.toNatClampNeg) = x2 → ∀ x62 : Int32, x62 = x3 + 0 → p_X12_heldAt_79 Q f x1 x2 x62 (x4 + 1) w) ∧ ((mA w 42 x4.toNatClampNeg) = x2 → vp_in x4 (mL 43) ∧ ∀ x66 : Int32, x66 = x3 + (mA w 43 x4.toNatClampNeg) → p_X12_heldAt_79 Q f x1 x2 x66 (x4 + 1) w)))
def p_X12_heldAt_5 (Q : Int32 → MS → Prop) : Nat → Int32 → Int32 → Int32 → Int32 → MS → Prop
  | 0, _, _, _, _, _ => False
  | f + 1, x1, x2, x3, x4, w =>
    ((mI w 45) ≤ x4 → ∃ f67 : Nat, p_X12_heldAt_79 Q f67 x1 x2 x3 0 w) ∧ (¬ (mI w 45) ≤ x4 → p_X12_isOn x4 w (fun x68 w69 => (x68 = 0 → ∀ x71 : Int32, x71 = x3 + 0 → p_X12_heldAt_5 Q f x1 x2 x71 (x4 + 1) w69) ∧ (¬ x68 = 0 → vp_in x4 (mL 46) ∧ ((mA w69 46 x4.toNatClampNeg) = 2 → ∀ x76 : Int32, x76 = x3 + 0 → p_X12_heldAt_5 Q f x1 x2 x76 (x4 + 1) w69) ∧ (¬ (mA w69 46 x4.toNatClampNeg) = 2 → vp_in x4 (mL 48) ∧ (¬ (mA w69 48 x4.toNatClampNeg) = x1 → ∀ x81 : Int32, x81 = x3 + 0 → p_X12_heldAt_5 Q f x1 x2 x81 (x4 + 1) w69) ∧ ((mA w69 48 x4.toNatClampNeg) = x1 → vp_in x4 (mL 47) ∧ (¬ (mA w69 47 x4.toNatClampNeg) = x2 → ∀ x86 : Int32, x86 = x3 + 0 → p_X12_heldAt_5 Q f x1 x2 x86 (x4 + 1) w69) ∧ ((mA w69 47 x4.toNatClampNeg) = x2 → vp_in x4 (mL 51) ∧ ∀ x90 : Int32, x90 = x3 + (mA w69 51 x4.toNatClampNeg) → p_X12_heldAt_5 Q f x1 x2 x90 (x4 + 1) w69))))))
def p_X12_heldAt (x1 : Int32) (x2 : Int32) (w : MS) (Q : Int32 → MS → Prop) : Prop :=
    ∃ f91 : Nat, p_X12_heldAt_5 Q f91 x1 x2 0 0 w
def p_X12_isGroup (x0 : Int32) (w : MS) (Q : Int32 → MS → Prop) : Prop :=
    p_X12_isIn x0 0 3 w (fun x51 w52 => (x51 = 0 ∨ x51 = 1) ∧ Q x51 w52)
def p_X12_isInRing_23 (Q : Int32 → MS → Prop) (K4 : Int32 → Int32 → Int32 → MS → Prop) (x1 : Int32) (x3 : Int32) (xs0 : Int32) (w : MS) : Prop :=
    (¬ xs0 = x1 → K4 x1 xs0 (x3 + 1) w) ∧ (xs0 = x1 → Q 1 w)
def p_X12_isInRing_4 (Q : Int32 → MS → Prop) : Nat → Int32 → Int32 → Int32 → MS → Prop
  | 0, _, _, _, _ => False
  | f + 1, x1, x2, x3, w =>
    (3 ≤ x3 → Q 0 w) ∧ (¬ 3 ≤ x3 → (¬ x2 = (-1) → p_X12_nextOf x2 w (fun x53 w54 => p_X12_isInRing_23 Q (p_X12_isInRing_4 Q  f) x1 x3 x53 w54)) ∧ (x2 = (-1) → p_X12_isInRing_23 Q (p_X12_isInRing_4 Q  f) x1 x3 (-1) w))
def p_X12_isInRing (x1 : Int32) (w : MS) (Q : Int32 → MS → Prop) : Prop :=
    ∃ f56 : Nat, p_X12_isInRing_4 Q f56 x1 x1 0 w
def p_X12_isItem (x0 : Int32) (w : MS) (Q : Int32 → MS → Prop) : Prop :=
    p_X12_isIn x0 0 5 w (fun x51 w52 => (x51 = 0 ∨ x51 = 1) ∧ Q x51 w52)
def p_X12_isLot (x1 : Int32) (w : MS) (Q : Int32 → MS → Prop) : Prop :=
    p_X12_isIn x1 0 ((mI w 15) - 1) w (fun x51 w52 => (x51 = 0 ∨ x51 = 1) ∧ Q x51 w52)
def p_X12_isNotice (x1 : Int32) (w : MS) (Q : Int32 → MS → Prop) : Prop :=
    p_X12_isIn x1 0 ((mI w 22) - 1) w (fun x51 w52 => (x51 = 0 ∨ x51 = 1) ∧ Q x51 w52)
def p_X12_isOrder (x1 : Int32) (w : MS) (Q : Int32 → MS → Prop) : Prop :=
    p_X12_isIn x1 0 ((mI w 27) - 1) w (fun x51 w52 => (x51 = 0 ∨ x51 = 1) ∧ Q x51 w52)
def p_X12_isRobot (x0 : Int32) (w : MS) (Q : Int32 → MS → Prop) : Prop :=
    p_X12_isIn x0 0 2 w (fun x51 w52 => (x51 = 0 ∨ x51 = 1) ∧ Q x51 w52)
def p_X12_isSlot (x0 : Int32) (w : MS) (Q : Int32 → MS → Prop) : Prop :=
    p_X12_isIn x0 0 17 w (fun x51 w52 => (x51 = 0 ∨ x51 = 1) ∧ Q x51 w52)
def p_X12_isTask (x1 : Int32) (w : MS) (Q : Int32 → MS → Prop) : Prop :=
    p_X12_isIn x1 0 ((mI w 45) - 1) w (fun x51 w52 => (x51 = 0 ∨ x51 = 1) ∧ Q x51 w52)
def p_X12_keeps_31 (Q : Int32 → MS → Prop) (x1 : Int32) (w : MS) : Prop :=
    vp_in x1 (mL 51) ∧ Q (mA w 51 x1.toNatClampNeg) w
def p_X12_keeps (x1 : Int32) (x2 : Int32) (w : MS) (Q : Int32 → MS → Prop) : Prop :=
    vp_in x1 (mL 51) ∧ p_X12_less (mA w 51 x1.toNatClampNeg) x2 w (fun x55 w56 => vp_in x1 (mL 51) ∧ ∀ w59 : MS, w59 = mSA 51 x1.toNatClampNeg x55 w56 → vp_in x1 (mL 51) ∧ (¬ (mA w59 51 x1.toNatClampNeg) = 0 → p_X12_keeps_31 Q x1 w59) ∧ ((mA w59 51 x1.toNatClampNeg) = 0 → p_X12_ends x1 3 w59 (fun w68 => p_X12_keeps_31 Q x1 w68)))
def p_X12_makesPicks_70 (Q : MS → Prop) (K3 : Int32 → Int32 → Int32 → Int32 → MS → Prop) (K13 : Int32 → Int32 → Int32 → Int32 → Int32 → MS → Prop) (x1 : Int32) (x2 : Int32) (x3 : Int32) (x4 : Int32) (x5 : Int32) (xs0 : Int32) (w : MS) : Prop :=
    (xs0 = 0 → K13 x1 x2 x3 x4 (x5 + 1) w) ∧ (¬ xs0 = 0 → p_X12_isFor x5 x2 w (fun x58 w59 => (x58 = 0 → K13 x1 x2 x3 x4 (x5 + 1) w59) ∧ (¬ x58 = 0 → vp_in x5 (mL 42) ∧ vp_in x5 (mL 40) ∧ vp_in x5 (mL 43) ∧ p_X12_makes 2 (mA w59 42 x5.toNatClampNeg) x3 (20 + (x4 - x4 / 8 * 8)) (mA w59 40 x5.toNatClampNeg) (mA w59 43 x5.toNatClampNeg) w59 (fun x70 w71 => vp_in x5 (mL 44) ∧ ∀ w75 : MS, w75 = mSA 44 x5.toNatClampNeg x70 w71 → p_X12_gives x1 x70 w75 (fun w77 => K13 x1 x2 x3 x4 (x5 + 1) w77)))))
def p_X12_makesPicks_69 (Q : MS → Prop) (K3 : Int32 → Int32 → Int32 → Int32 → MS → Prop) (K13 : Int32 → Int32 → Int32 → Int32 → Int32 → MS → Prop) (x1 : Int32) (x2 : Int32) (x3 : Int32) (x4 : Int32) (x5 : Int32) (w : MS) : Prop :=
    p_X12_makesPicks_70 Q K3 K13 x1 x2 x3 x4 x5 0 w
def p_X12_makesPicks_13 (Q : MS → Prop) (K3 : Int32 → Int32 → Int32 → Int32 → MS → Prop) : Nat → Int32 → Int32 → Int32 → Int32 → Int32 → MS → Prop
  | 0, _, _, _, _, _, _ => False
  | f + 1, x1, x2, x3, x4, x5, w =>
    ((mI w 39) ≤ x5 → K3 x1 x2 x3 (x4 + 1) w) ∧ (¬ (mI w 39) ≤ x5 → vp_in x5 (mL 41) ∧ (¬ (mA w 41 x5.toNatClampNeg) = x3 → p_X12_makesPicks_69 Q K3 (p_X12_makesPicks_13 Q K3 f) x1 x2 x3 x4 x5 w) ∧ ((mA w 41 x5.toNatClampNeg) = x3 → vp_in x5 (mL 42) ∧ (¬ (mA w 42 x5.toNatClampNeg) = (x4 / 8) → p_X12_makesPicks_69 Q K3 (p_X12_makesPicks_13 Q K3 f) x1 x2 x3 x4 x5 w) ∧ ((mA w 42 x5.toNatClampNeg) = (x4 / 8) → vp_in x5 (mL 40) ∧ (¬ ((mA w 40 x5.toNatClampNeg) / 3) = (x4 - x4 / 8 * 8) → p_X12_makesPicks_69 Q K3 (p_X12_makesPicks_13 Q K3 f) x1 x2 x3 x4 x5 w) ∧ (((mA w 40 x5.toNatClampNeg) / 3) = (x4 - x4 / 8 * 8) → p_X12_makesPicks_70 Q K3 (p_X12_makesPicks_13 Q K3 f) x1 x2 x3 x4 x5 1 w))))
def p_X12_makesPicks_3 (Q : MS → Prop) : Nat → Int32 → Int32 → Int32 → Int32 → MS → Prop
  | 0, _, _, _, _, _ => False
  | f + 1, x1, x2, x3, x4, w =>
    (96 ≤ x4 → Q w) ∧ (¬ 96 ≤ x4 → ∃ f86 : Nat, p_X12_makesPicks_13 Q (p_X12_makesPicks_3 Q  f) f86 x1 x2 x3 x4 0 w)
def p_X12_makesPicks (x1 : Int32) (x2 : Int32) (x3 : Int32) (w : MS) (Q : MS → Prop) : Prop :=
    ∃ f87 : Nat, p_X12_makesPicks_3 Q f87 x1 x2 x3 0 w
def p_X12_moves (x1 : Int32) (x2 : Int32) (w : MS) (Q : MS → Prop) : Prop :=
    vp_in x1 (mL 48) ∧ vp_in x1 (mL 47) ∧ vp_in x1 (mL 51) ∧ p_X12_books (mA w 48 x1.toNatClampNeg) (mA w 47 x1.toNatClampNeg) (-(mA w 51 x1.toNatClampNeg)) w (fun w61 => vp_in x1 (mL 49) ∧ vp_in x1 (mL 47) ∧ vp_in x1 (mL 51) ∧ p_X12_books (mA w61 49 x1.toNatClampNeg) (mA w61 47 x1.toNatClampNeg) (mA w61 51 x1.toNatClampNeg) w61 (fun w72 => ∀ w73 : MS, w73 = mSI 2 ((mI w72 2) + x2) w72 → p_X12_ends x1 2 w73 (fun w75 => p_X12_tidies  w75 (fun w77 => Q w77))))
def p_X12_order_40 (Q : Int32 → MS → Prop) (x1 : Int32) (x2 : Int32) (x3 : Int32) (xs1 : Int32) (w : MS) : Prop :=
    p_X12_holds xs1 w (fun x54 w55 => (¬ x54 = 0 → vp_in (mI w55 27) (mL 28) ∧ ∀ w60 : MS, w60 = mSA 28 (mI w55 27).toNatClampNeg x1 w55 → vp_in (mI w60 27) (mL 29) ∧ (x2 = 0 ∨ x2 = 1) ∧ ∀ w64 : MS, w64 = mSA 29 (mI w60 27).toNatClampNeg x2 w60 → vp_in (mI w64 27) (mL 30) ∧ ∀ w69 : MS, w69 = mSA 30 (mI w64 27).toNatClampNeg x3 w64 → ∀ w70 : MS, w70 = mSI 27 ((mI w69 27) + 1) w69 → Q ((mI w70 27) - 1) w70) ∧ (x54 = 0 → Q 0 w55))
def p_X12_order (x1 : Int32) (x2 : Int32) (x3 : Int32) (w : MS) (Q : Int32 → MS → Prop) : Prop :=
    p_X12_isIn x1 0 9 w (fun x51 w52 => (x51 = 0 → p_X12_order_40 Q x1 x2 x3 1 w52) ∧ (¬ x51 = 0 → p_X12_isIn x3 0 999 w52 (fun x71 w72 => (¬ x71 = 0 → (¬ (mI w72 27) = 8 → p_X12_order_40 Q x1 x2 x3 0 w72) ∧ ((mI w72 27) = 8 → p_X12_order_40 Q x1 x2 x3 2 w72)) ∧ (x71 = 0 → p_X12_order_40 Q x1 x2 x3 1 w72))))
def p_X12_packs_144 (Q : Int32 → MS → Prop) (K33 : Int32 → Int32 → MS → Prop) (K48 : Int32 → Int32 → Int32 → Int32 → MS → Prop) (x2 : Int32) (x3 : Int32) (x4 : Int32) (x5 : Int32) (x6 : Int32) (w : MS) : Prop :=
    vp_in x6 (mL 61) ∧ vp_in x4 (mL 10) ∧ vp_in x6 (mL 61) ∧ ∀ w71 : MS, w71 = mSA 61 x6.toNatClampNeg ((mA w 61 x6.toNatClampNeg) + (mA w 10 x4.toNatClampNeg)) w → vp_in x6 (mL 62) ∧ vp_in x4 (mL 11) ∧ vp_in x6 (mL 62) ∧ ∀ w79 : MS, w79 = mSA 62 x6.toNatClampNeg ((mA w71 62 x6.toNatClampNeg) + (mA w71 11 x4.toNatClampNeg)) w71 → vp_in x6 (mL 63) ∧ vp_in x6 (mL 63) ∧ ∀ w84 : MS, w84 = mSA 63 x6.toNatClampNeg ((mA w79 63 x6.toNatClampNeg) + 1) w79 → vp_in x6 (mL 64) ∧ vp_in x6 (mL 64) ∧ ∀ w89 : MS, w89 = mSA 64 x6.toNatClampNeg ((mA w84 64 x6.toNatClampNeg) ||| (1 <<< (x4 &&& 31))) w84 → K48 x2 x3 x4 (x5 + 1) w89
def p_X12_packs_103 (Q : Int32 → MS → Prop) (K33 : Int32 → Int32 → MS → Prop) (K48 : Int32 → Int32 → Int32 → Int32 → MS → Prop) (x2 : Int32) (x3 : Int32) (x4 : Int32) (x5 : Int32) (x6 : Int32) (w : MS) : Prop :=
    (¬ x6 = x2 → p_X12_packs_144 Q K33 K48 x2 x3 x4 x5 x6 w) ∧ (x6 = x2 → vp_in x6 (mL 61) ∧ ∀ w93 : MS, w93 = mSA 61 x6.toNatClampNeg 0 w → vp_in x6 (mL 62) ∧ ∀ w97 : MS, w97 = mSA 62 x6.toNatClampNeg 0 w93 → vp_in x6 (mL 63) ∧ ∀ w101 : MS, w101 = mSA 63 x6.toNatClampNeg 0 w97 → vp_in x6 (mL 64) ∧ ∀ w105 : MS, w105 = mSA 64 x6.toNatClampNeg 0 w101 → p_X12_packs_144 Q K33 K48 (x2 + 1) x3 x4 x5 x6 w105)
def p_X12_packs_80 (Q : Int32 → MS → Prop) (K33 : Int32 → Int32 → MS → Prop) (K48 : Int32 → Int32 → Int32 → Int32 → MS → Prop) : Nat → Int32 → Int32 → Int32 → Int32 → Int32 → MS → Prop
  | 0, _, _, _, _, _, _ => False
  | f + 1, x2, x3, x4, x5, x6, w =>
    (x2 ≤ x6 → p_X12_packs_103 Q K33 K48 x2 x3 x4 x5 x6 w) ∧ (¬ x2 ≤ x6 → p_X12_fitsInto x6 x4 w (fun x106 w107 => (¬ x106 = 0 → p_X12_packs_103 Q K33 K48 x2 x3 x4 x5 x6 w107) ∧ (x106 = 0 → p_X12_packs_80 Q K33 K48 f x2 x3 x4 x5 (x6 + 1) w107)))
def p_X12_packs_48 (Q : Int32 → MS → Prop) (K33 : Int32 → Int32 → MS → Prop) : Nat → Int32 → Int32 → Int32 → Int32 → MS → Prop
  | 0, _, _, _, _, _ => False
  | f + 1, x2, x3, x4, x5, w =>
    vp_in x4 (mL 60) ∧ ((mA w 60 x4.toNatClampNeg) ≤ x5 → K33 x2 (x3 + 1) w) ∧ (¬ (mA w 60 x4.toNatClampNeg) ≤ x5 → vp_in x4 (mL 10) ∧ (¬ (mA w 10 x4.toNatClampNeg) = (9 - (x3 / 6)) → K33 x2 (x3 + 1) w) ∧ ((mA w 10 x4.toNatClampNeg) = (9 - (x3 / 6)) → ∃ f109 : Nat, p_X12_packs_80 Q K33 (p_X12_packs_48 Q K33 f) f109 x2 x3 x4 x5 0 w))
def p_X12_packs_33 (Q : Int32 → MS → Prop) : Nat → Int32 → Int32 → MS → Prop
  | 0, _, _, _ => False
  | f + 1, x2, x3, w =>
    (54 ≤ x3 → Q x2 w) ∧ (¬ 54 ≤ x3 → ∀ x53 : Int32, x53 = x3 - x3 / 6 * 6 → ∃ f110 : Nat, p_X12_packs_48 Q (p_X12_packs_33 Q  f) f110 x2 x3 x53 0 w)
def p_X12_packs_4 (Q : Int32 → MS → Prop) : Nat → Int32 → Int32 → Int32 → MS → Prop
  | 0, _, _, _, _ => False
  | f + 1, x1, x2, x3, w =>
    (6 ≤ x3 → ∃ f111 : Nat, p_X12_packs_33 Q f111 x2 0 w) ∧ (¬ 6 ≤ x3 → p_X12_itemIn (20 + x1) x3 w (fun x113 w114 => vp_in x3 (mL 60) ∧ ∀ w117 : MS, w117 = mSA 60 x3.toNatClampNeg x113 w114 → p_X12_packs_4 Q f x1 x2 (x3 + 1) w117))
def p_X12_packs (x1 : Int32) (w : MS) (Q : Int32 → MS → Prop) : Prop :=
    ∃ f118 : Nat, p_X12_packs_4 Q f118 x1 0 0 w
def p_X12_picks_4 (Q : Int32 → MS → Prop) : Nat → Int32 → Int32 → Int32 → MS → Prop
  | 0, _, _, _, _ => False
  | f + 1, x1, x2, x3, w =>
    ((mI w 39) ≤ x3 → Q x2 w) ∧ (¬ (mI w 39) ≤ x3 → p_X12_isFor x3 x1 w (fun x52 w53 => (x52 = 0 → ∀ x55 : Int32, x55 = x2 + 0 → p_X12_picks_4 Q f x1 x55 (x3 + 1) w53) ∧ (¬ x52 = 0 → ∀ x56 : Int32, x56 = x2 + 1 → p_X12_picks_4 Q f x1 x56 (x3 + 1) w53)))
def p_X12_picks (x1 : Int32) (w : MS) (Q : Int32 → MS → Prop) : Prop :=
    ∃ f57 : Nat, p_X12_picks_4 Q f57 x1 0 0 w
def p_X12_roomHeld_4 (Q : Int32 → MS → Prop) : Nat → Int32 → Int32 → Int32 → MS → Prop
  | 0, _, _, _, _ => False
  | f + 1, x1, x2, x3, w =>
    ((mI w 45) ≤ x3 → Q x2 w) ∧ (¬ (mI w 45) ≤ x3 → p_X12_isOn x3 w (fun x52 w53 => (x52 = 0 → ∀ x55 : Int32, x55 = x2 + 0 → p_X12_roomHeld_4 Q f x1 x55 (x3 + 1) w53) ∧ (¬ x52 = 0 → vp_in x3 (mL 46) ∧ ((mA w53 46 x3.toNatClampNeg) = 2 → ∀ x60 : Int32, x60 = x2 + 0 → p_X12_roomHeld_4 Q f x1 x60 (x3 + 1) w53) ∧ (¬ (mA w53 46 x3.toNatClampNeg) = 2 → vp_in x3 (mL 49) ∧ (¬ (mA w53 49 x3.toNatClampNeg) = x1 → ∀ x65 : Int32, x65 = x2 + 0 → p_X12_roomHeld_4 Q f x1 x65 (x3 + 1) w53) ∧ ((mA w53 49 x3.toNatClampNeg) = x1 → vp_in x3 (mL 51) ∧ vp_in x3 (mL 47) ∧ vp_in (mA w53 47 x3.toNatClampNeg) (mL 16) ∧ vp_in (mA w53 16 (mA w53 47 x3.toNatClampNeg).toNatClampNeg) (mL 10) ∧ ∀ x78 : Int32, x78 = x2 + ((mA w53 51 x3.toNatClampNeg) * (mA w53 10 (mA w53 16 (mA w53 47 x3.toNatClampNeg).toNatClampNeg).toNatClampNeg)) → p_X12_roomHeld_4 Q f x1 x78 (x3 + 1) w53)))))
def p_X12_roomHeld (x1 : Int32) (w : MS) (Q : Int32 → MS → Prop) : Prop :=
    ∃ f79 : Nat, p_X12_roomHeld_4 Q f79 x1 0 0 w
def p_X12_standsIn_18 (Q : Int32 → MS → Prop) : Nat → Int32 → Int32 → Int32 → Int32 → MS → Prop
  | 0, _, _, _, _, _ => False
  | f + 1, x1, x2, x3, x4, w =>
    ((mI w 45) ≤ x4 → (x3 = 0 ∨ x3 = 1) ∧ Q x3 w) ∧ (¬ (mI w 45) ≤ x4 → (¬ x3 = 0 → p_X12_standsIn_18 Q f x1 x2 1 (x4 + 1) w) ∧ (x3 = 0 → p_X12_isOn x4 w (fun x56 w57 => (x56 = 0 → p_X12_standsIn_18 Q f x1 x2 0 (x4 + 1) w57) ∧ (¬ x56 = 0 → vp_in x4 (mL 46) ∧ ((mA w57 46 x4.toNatClampNeg) = 2 → p_X12_standsIn_18 Q f x1 x2 0 (x4 + 1) w57) ∧ (¬ (mA w57 46 x4.toNatClampNeg) = 2 → vp_in x4 (mL 49) ∧ (¬ (mA w57 49 x4.toNatClampNeg) = x1 → p_X12_standsIn_18 Q f x1 x2 0 (x4 + 1) w57) ∧ ((mA w57 49 x4.toNatClampNeg) = x1 → vp_in x4 (mL 47) ∧ vp_in (mA w57 47 x4.toNatClampNeg) (mL 16) ∧ (¬ (mA w57 16 (mA w57 47 x4.toNatClampNeg).toNatClampNeg) = x2 → p_X12_standsIn_18 Q f x1 x2 0 (x4 + 1) w57) ∧ ((mA w57 16 (mA w57 47 x4.toNatClampNeg).toNatClampNeg) = x2 → p_X12_standsIn_18 Q f x1 x2 1 (x4 + 1) w57)))))))
def p_X12_standsIn (x1 : Int32) (x2 : Int32) (w : MS) (Q : Int32 → MS → Prop) : Prop :=
    p_X12_itemIn x1 x2 w (fun x51 w52 => (x51 ≤ 0 → ∃ f74 : Nat, p_X12_standsIn_18 Q f74 x1 x2 0 0 w52) ∧ (¬ x51 ≤ 0 → ∃ f75 : Nat, p_X12_standsIn_18 Q f75 x1 x2 1 0 w52))
def p_X12_bar_20 (Q : Int32 → MS → Prop) (x1 : Int32) (x2 : Int32) (x3 : Int32) (xs1 : Int32) (w : MS) : Prop :=
    p_X12_holds xs1 w (fun x54 w55 => (¬ x54 = 0 → vp_in ((4 * x1) + x2) (mL 14) ∧ ∀ x60 : Int32, x60 = mA w55 14 ((4 * x1) + x2).toNatClampNeg → vp_in ((4 * x1) + x2) (mL 14) ∧ (x3 = 0 ∨ x3 = 1) ∧ ∀ w64 : MS, w64 = mSA 14 ((4 * x1) + x2).toNatClampNeg x3 w55 → vp_in ((4 * x2) + x1) (mL 14) ∧ (x3 = 0 ∨ x3 = 1) ∧ ∀ w69 : MS, w69 = mSA 14 ((4 * x2) + x1).toNatClampNeg x3 w64 → (x60 = 0 ∨ x60 = 1) ∧ Q x60 w69) ∧ (x54 = 0 → Q 0 w55))
def p_X12_bar_19 (Q : Int32 → MS → Prop) (x1 : Int32) (x2 : Int32) (x3 : Int32) (w : MS) : Prop :=
    p_X12_bar_20 Q x1 x2 x3 1 w
def p_X12_bar (x1 : Int32) (x2 : Int32) (x3 : Int32) (w : MS) (Q : Int32 → MS → Prop) : Prop :=
    p_X12_isGroup x1 w (fun x51 w52 => (x51 = 0 → p_X12_bar_19 Q x1 x2 x3 w52) ∧ (¬ x51 = 0 → p_X12_isGroup x2 w52 (fun x71 w72 => (x71 = 0 → p_X12_bar_19 Q x1 x2 x3 w72) ∧ (¬ x71 = 0 → p_X12_bar_20 Q x1 x2 x3 0 w72))))
def p_X12_boxesOf (x1 : Int32) (w : MS) (Q : Int32 → MS → Prop) : Prop :=
    vp_in x1 (mL 32) ∧ ((mA w 32 x1.toNatClampNeg) = 0 → p_X12_packs x1 w (fun x55 w56 => Q x55 w56)) ∧ (¬ (mA w 32 x1.toNatClampNeg) = 0 → vp_in x1 (mL 35) ∧ Q (mA w 35 x1.toNatClampNeg) w)
def p_X12_close_29 (Q : Int32 → MS → Prop) (x1 : Int32) (xs1 : Int32) (w : MS) : Prop :=
    p_X12_holds xs1 w (fun x58 w59 => (¬ x58 = 0 → vp_in x1 (mL 25) ∧ ∀ w64 : MS, w64 = mSA 25 x1.toNatClampNeg 1 w59 → p_X12_cameOf x1 1 w64 (fun x65 w66 => vp_in x1 (mL 24) ∧ Q (x65 - (mA w66 24 x1.toNatClampNeg)) w66)) ∧ (x58 = 0 → Q 0 w59))
def p_X12_close (x1 : Int32) (w : MS) (Q : Int32 → MS → Prop) : Prop :=
    p_X12_isNotice x1 w (fun x51 w52 => (¬ x51 = 0 → vp_in x1 (mL 25) ∧ ((mA w52 25 x1.toNatClampNeg) = 0 → p_X12_close_29 Q x1 0 w52) ∧ (¬ (mA w52 25 x1.toNatClampNeg) = 0 → p_X12_close_29 Q x1 2 w52)) ∧ (x51 = 0 → p_X12_close_29 Q x1 1 w52))
def p_X12_comeBack_64 (Q : Int32 → MS → Prop) (x1 : Int32) (x2 : Int32) (x3 : Int32) (xs1 : Int32) (w : MS) : Prop :=
    p_X12_holds xs1 w (fun x62 w63 => (¬ x62 = 0 → ∀ x66 : Int32, x66 = (12 * x1) + x2 → vp_in x66 (mL 33) ∧ vp_in x66 (mL 33) ∧ ∀ w70 : MS, w70 = mSA 33 x66.toNatClampNeg ((mA w63 33 x66.toNatClampNeg) - x3) w63 → p_X12_books 19 x2 x3 w70 (fun w72 => ∀ w73 : MS, w73 = mSI 2 ((mI w72 2) + (2 * x3)) w72 → vp_in (228 + x2) (mL 19) ∧ Q (mA w73 19 (228 + x2).toNatClampNeg) w73)) ∧ (x62 = 0 → Q 0 w63))
def p_X12_comeBack_21 (Q : Int32 → MS → Prop) (x1 : Int32) (x2 : Int32) (x3 : Int32) (xs0 : Int32) (w : MS) : Prop :=
    (¬ xs0 = 0 → p_X12_arePieces x3 w (fun x55 w56 => (¬ x55 = 0 → vp_in ((12 * x1) + x2) (mL 33) ∧ (x3 ≤ (mA w56 33 ((12 * x1) + x2).toNatClampNeg) → p_X12_comeBack_64 Q x1 x2 x3 0 w56) ∧ (¬ x3 ≤ (mA w56 33 ((12 * x1) + x2).toNatClampNeg) → p_X12_comeBack_64 Q x1 x2 x3 3 w56)) ∧ (x55 = 0 → p_X12_comeBack_64 Q x1 x2 x3 2 w56))) ∧ (xs0 = 0 → p_X12_comeBack_64 Q x1 x2 x3 1 w)
def p_X12_comeBack_20 (Q : Int32 → MS → Prop) (x1 : Int32) (x2 : Int32) (x3 : Int32) (w : MS) : Prop :=
    p_X12_comeBack_21 Q x1 x2 x3 0 w
def p_X12_comeBack (x1 : Int32) (x2 : Int32) (x3 : Int32) (w : MS) (Q : Int32 → MS → Prop) : Prop :=
    p_X12_isOrder x1 w (fun x51 w52 => (x51 = 0 → p_X12_comeBack_20 Q x1 x2 x3 w52) ∧ (¬ x51 = 0 → p_X12_isLot x2 w52 (fun x77 w78 => (x77 = 0 → p_X12_comeBack_20 Q x1 x2 x3 w78) ∧ (¬ x77 = 0 → p_X12_comeBack_21 Q x1 x2 x3 1 w78))))
def p_X12_doing_13 (Q : Int32 → MS → Prop) (x1 : Int32) (xs1 : Int32) (w : MS) : Prop :=
    p_X12_holds xs1 w (fun x54 w55 => (¬ x54 = 0 → vp_in x1 (mL 59) ∧ (¬ (mA w55 59 x1.toNatClampNeg) = 0 → vp_in (60 * x1) (mL 58) ∧ Q (mA w55 58 (60 * x1).toNatClampNeg) w55) ∧ ((mA w55 59 x1.toNatClampNeg) = 0 → Q (-1) w55)) ∧ (x54 = 0 → Q 0 w55))
def p_X12_doing (x1 : Int32) (w : MS) (Q : Int32 → MS → Prop) : Prop :=
    p_X12_isRobot x1 w (fun x51 w52 => (x51 = 0 → p_X12_doing_13 Q x1 1 w52) ∧ (¬ x51 = 0 → p_X12_doing_13 Q x1 0 w52))
def p_X12_find_44 (Q : Int32 → MS → Prop) (x1 : Int32) (x2 : Int32) (x3 : Int32) (xs1 : Int32) (w : MS) : Prop :=
    p_X12_holds xs1 w (fun x58 w59 => (¬ x58 = 0 → ∀ x62 : Int32, x62 = (12 * x1) + x2 → vp_in x62 (mL 20) ∧ vp_in x62 (mL 20) ∧ ∀ w66 : MS, w66 = mSA 20 x62.toNatClampNeg ((mA w59 20 x62.toNatClampNeg) + x3) w59 → vp_in ((12 * x1) + x2) (mL 20) ∧ Q (mA w66 20 ((12 * x1) + x2).toNatClampNeg) w66) ∧ (x58 = 0 → Q 0 w59))
def p_X12_find_20 (Q : Int32 → MS → Prop) (x1 : Int32) (x2 : Int32) (x3 : Int32) (xs0 : Int32) (w : MS) : Prop :=
    (¬ xs0 = 0 → p_X12_arePieces x3 w (fun x55 w56 => (x55 = 0 → p_X12_find_44 Q x1 x2 x3 2 w56) ∧ (¬ x55 = 0 → p_X12_find_44 Q x1 x2 x3 0 w56))) ∧ (xs0 = 0 → p_X12_find_44 Q x1 x2 x3 1 w)
def p_X12_find_19 (Q : Int32 → MS → Prop) (x1 : Int32) (x2 : Int32) (x3 : Int32) (w : MS) : Prop :=
    p_X12_find_20 Q x1 x2 x3 0 w
def p_X12_find (x1 : Int32) (x2 : Int32) (x3 : Int32) (w : MS) (Q : Int32 → MS → Prop) : Prop :=
    p_X12_isSlot x1 w (fun x51 w52 => (x51 = 0 → p_X12_find_19 Q x1 x2 x3 w52) ∧ (¬ x51 = 0 → p_X12_isLot x2 w52 (fun x70 w71 => (x70 = 0 → p_X12_find_19 Q x1 x2 x3 w71) ∧ (¬ x70 = 0 → p_X12_find_20 Q x1 x2 x3 1 w71))))
def p_X12_freeAt (x1 : Int32) (x2 : Int32) (w : MS) (Q : Int32 → MS → Prop) : Prop :=
    vp_in ((12 * x1) + x2) (mL 19) ∧ p_X12_heldAt x1 x2 w (fun x54 w55 => Q ((mA w 19 ((12 * x1) + x2).toNatClampNeg) - x54) w55)
def p_X12_give_44 (Q : Int32 → MS → Prop) (x1 : Int32) (x2 : Int32) (xs1 : Int32) (w : MS) : Prop :=
    p_X12_holds xs1 w (fun x59 w60 => (¬ x59 = 0 → p_X12_gives x1 x2 w60 (fun w63 => vp_in x1 (mL 59) ∧ Q (mA w63 59 x1.toNatClampNeg) w63)) ∧ (x59 = 0 → Q 0 w60))
def p_X12_give_20 (Q : Int32 → MS → Prop) (x1 : Int32) (x2 : Int32) (xs0 : Int32) (w : MS) : Prop :=
    (¬ xs0 = 0 → vp_in x2 (mL 52) ∧ (¬ (mA w 52 x2.toNatClampNeg) = 0 → p_X12_give_44 Q x1 x2 2 w) ∧ ((mA w 52 x2.toNatClampNeg) = 0 → p_X12_give_44 Q x1 x2 0 w)) ∧ (xs0 = 0 → p_X12_give_44 Q x1 x2 1 w)
def p_X12_give_19 (Q : Int32 → MS → Prop) (x1 : Int32) (x2 : Int32) (w : MS) : Prop :=
    p_X12_give_20 Q x1 x2 0 w
def p_X12_give (x1 : Int32) (x2 : Int32) (w : MS) (Q : Int32 → MS → Prop) : Prop :=
    p_X12_isRobot x1 w (fun x51 w52 => (x51 = 0 → p_X12_give_19 Q x1 x2 w52) ∧ (¬ x51 = 0 → p_X12_isTask x2 w52 (fun x67 w68 => (x67 = 0 → p_X12_give_19 Q x1 x2 w68) ∧ (¬ x67 = 0 → p_X12_give_20 Q x1 x2 1 w68))))
def p_X12_held_43 (Q : Int32 → MS → Prop) : Nat → Int32 → Int32 → Int32 → Int32 → Int32 → MS → Prop
  | 0, _, _, _, _, _, _ => False
  | f + 1, x1, x2, x3, x4, x5, w =>
    ((mI w 39) ≤ x5 → Q x4 w) ∧ (¬ (mI w 39) ≤ x5 → vp_in x5 (mL 40) ∧ (¬ ((mA w 40 x5.toNatClampNeg) / 3) = x1 → ∀ x62 : Int32, x62 = x4 + 0 → p_X12_held_43 Q f x1 x2 x3 x62 (x5 + 1) w) ∧ (((mA w 40 x5.toNatClampNeg) / 3) = x1 → vp_in x5 (mL 41) ∧ (¬ (mA w 41 x5.toNatClampNeg) = x2 → ∀ x67 : Int32, x67 = x4 + 0 → p_X12_held_43 Q f x1 x2 x3 x67 (x5 + 1) w) ∧ ((mA w 41 x5.toNatClampNeg) = x2 → vp_in x5 (mL 42) ∧ (¬ (mA w 42 x5.toNatClampNeg) = x3 → ∀ x72 : Int32, x72 = x4 + 0 → p_X12_held_43 Q f x1 x2 x3 x72 (x5 + 1) w) ∧ ((mA w 42 x5.toNatClampNeg) = x3 → vp_in x5 (mL 43) ∧ ∀ x76 : Int32, x76 = x4 + (mA w 43 x5.toNatClampNeg) → p_X12_held_43 Q f x1 x2 x3 x76 (x5 + 1) w))))
def p_X12_held_29 (Q : Int32 → MS → Prop) (x1 : Int32) (x2 : Int32) (x3 : Int32) (xs1 : Int32) (w : MS) : Prop :=
    p_X12_holds xs1 w (fun x54 w55 => (¬ x54 = 0 → ∃ f77 : Nat, p_X12_held_43 Q f77 x1 x2 x3 0 0 w55) ∧ (x54 = 0 → Q 0 w55))
def p_X12_held_28 (Q : Int32 → MS → Prop) (x1 : Int32) (x2 : Int32) (x3 : Int32) (w : MS) : Prop :=
    p_X12_held_29 Q x1 x2 x3 1 w
def p_X12_held (x1 : Int32) (x2 : Int32) (x3 : Int32) (w : MS) (Q : Int32 → MS → Prop) : Prop :=
    p_X12_isOrder x1 w (fun x51 w52 => (x51 = 0 → p_X12_held_28 Q x1 x2 x3 w52) ∧ (¬ x51 = 0 → p_X12_isSlot x2 w52 (fun x78 w79 => (x78 = 0 → p_X12_held_28 Q x1 x2 x3 w79) ∧ (¬ x78 = 0 → p_X12_isLot x3 w79 (fun x81 w82 => (x81 = 0 → p_X12_held_28 Q x1 x2 x3 w82) ∧ (¬ x81 = 0 → p_X12_held_29 Q x1 x2 x3 0 w82))))))
def p_X12_isAsked_23 (Q : Int32 → MS → Prop) (xs1 : Int32) (w : MS) : Prop :=
    p_X12_holds xs1 w (fun x54 w55 => (x54 = 0 ∨ x54 = 1) ∧ Q x54 w55)
def p_X12_isAsked_22 (Q : Int32 → MS → Prop)  (w : MS) : Prop :=
    p_X12_isAsked_23 Q 1 w
def p_X12_isAsked (x1 : Int32) (x2 : Int32) (x3 : Int32) (w : MS) (Q : Int32 → MS → Prop) : Prop :=
    p_X12_isIn x1 0 x2 w (fun x51 w52 => (x51 = 0 → p_X12_isAsked_22 Q w52) ∧ (¬ x51 = 0 → p_X12_isLot x3 w52 (fun x56 w57 => (x56 = 0 → p_X12_isAsked_22 Q w57) ∧ (¬ x56 = 0 → p_X12_isAsked_23 Q 0 w57))))
def p_X12_isBarredIn_5 (Q : Int32 → MS → Prop) : Nat → Int32 → Int32 → Int32 → Int32 → MS → Prop
  | 0, _, _, _, _, _ => False
  | f + 1, x1, x2, x3, x4, w =>
    (6 ≤ x4 → (x3 = 0 ∨ x3 = 1) ∧ Q x3 w) ∧ (¬ 6 ≤ x4 → (¬ x3 = 0 → p_X12_isBarredIn_5 Q f x1 x2 1 (x4 + 1) w) ∧ (x3 = 0 → (x4 = x2 → p_X12_isBarredIn_5 Q f x1 x2 0 (x4 + 1) w) ∧ (¬ x4 = x2 → vp_in x4 (mL 12) ∧ vp_in x2 (mL 12) ∧ vp_in ((4 * (mA w 12 x4.toNatClampNeg)) + (mA w 12 x2.toNatClampNeg)) (mL 14) ∧ ((mA w 14 ((4 * (mA w 12 x4.toNatClampNeg)) + (mA w 12 x2.toNatClampNeg)).toNatClampNeg) = 0 → p_X12_isBarredIn_5 Q f x1 x2 0 (x4 + 1) w) ∧ (¬ (mA w 14 ((4 * (mA w 12 x4.toNatClampNeg)) + (mA w 12 x2.toNatClampNeg)).toNatClampNeg) = 0 → p_X12_standsIn x1 x4 w (fun x64 w65 => (x64 = 0 → p_X12_isBarredIn_5 Q f x1 x2 0 (x4 + 1) w65) ∧ (¬ x64 = 0 → p_X12_isBarredIn_5 Q f x1 x2 1 (x4 + 1) w65))))))
def p_X12_isBarredIn (x1 : Int32) (x2 : Int32) (w : MS) (Q : Int32 → MS → Prop) : Prop :=
    ∃ f67 : Nat, p_X12_isBarredIn_5 Q f67 x1 x2 0 0 w
def p_X12_isEmpty_16 (Q : Int32 → MS → Prop) : Nat → Int32 → Int32 → Int32 → MS → Prop
  | 0, _, _, _, _ => False
  | f + 1, x1, x2, x3, w =>
    (6 ≤ x3 → (x2 = 0 ∨ x2 = 1) ∧ Q x2 w) ∧ (¬ 6 ≤ x3 → (x2 = 0 → p_X12_isEmpty_16 Q f x1 0 (x3 + 1) w) ∧ (¬ x2 = 0 → p_X12_itemIn x1 x3 w (fun x56 w57 => (¬ x56 = 0 → p_X12_isEmpty_16 Q f x1 0 (x3 + 1) w57) ∧ (x56 = 0 → p_X12_isEmpty_16 Q f x1 1 (x3 + 1) w57))))
def p_X12_isEmpty (x1 : Int32) (w : MS) (Q : Int32 → MS → Prop) : Prop :=
    p_X12_roomHeld x1 w (fun x51 w52 => (¬ x51 = 0 → ∃ f59 : Nat, p_X12_isEmpty_16 Q f59 x1 0 0 w52) ∧ (x51 = 0 → ∃ f60 : Nat, p_X12_isEmpty_16 Q f60 x1 1 0 w52))
def p_X12_item_161 (Q : MS → Prop) (x1 : Int32) (x2 : Int32) (x3 : Int32) (x4 : Int32) (x5 : Int32) (x6 : Int32) (xs1 : Int32) (w : MS) : Prop :=
    p_X12_holds xs1 w (fun x61 w62 => (x61 = 0 → Q w62) ∧ (¬ x61 = 0 → vp_in x1 (mL 9) ∧ ∀ w67 : MS, w67 = mSA 9 x1.toNatClampNeg x2 w62 → vp_in x1 (mL 10) ∧ ∀ w71 : MS, w71 = mSA 10 x1.toNatClampNeg x3 w67 → vp_in x1 (mL 11) ∧ ∀ w75 : MS, w75 = mSA 11 x1.toNatClampNeg x4 w71 → vp_in x1 (mL 12) ∧ ∀ w79 : MS, w79 = mSA 12 x1.toNatClampNeg x5 w75 → vp_in x1 (mL 13) ∧ ∀ w83 : MS, w83 = mSA 13 x1.toNatClampNeg x6 w79 → Q w83))
def p_X12_item_76 (Q : MS → Prop) : Nat → Int32 → Int32 → Int32 → Int32 → Int32 → Int32 → Int32 → Int32 → Int32 → Int32 → MS → Prop
  | 0, _, _, _, _, _, _, _, _, _, _, _ => False
  | f + 1, x1, x2, x3, x4, x5, x6, x7, x8, x9, x10, w =>
    (18 ≤ x10 → (¬ x7 = 0 → (¬ x8 = 0 → (x9 = 0 → p_X12_item_161 Q x1 x2 x3 x4 x5 x6 0 w) ∧ (¬ x9 = 0 → p_X12_item_161 Q x1 x2 x3 x4 x5 x6 3 w)) ∧ (x8 = 0 → p_X12_item_161 Q x1 x2 x3 x4 x5 x6 2 w)) ∧ (x7 = 0 → p_X12_item_161 Q x1 x2 x3 x4 x5 x6 1 w)) ∧ (¬ 18 ≤ x10 → (¬ x9 = 0 → p_X12_item_76 Q f x1 x2 x3 x4 x5 x6 x7 x8 1 (x10 + 1) w) ∧ (x9 = 0 → vp_in x10 (mL 6) ∧ ((mA w 6 x10.toNatClampNeg) = x1 → p_X12_item_76 Q f x1 x2 x3 x4 x5 x6 x7 x8 1 (x10 + 1) w) ∧ (¬ (mA w 6 x10.toNatClampNeg) = x1 → ((mI w 15) ≤ x10 → p_X12_item_76 Q f x1 x2 x3 x4 x5 x6 x7 x8 0 (x10 + 1) w) ∧ (¬ (mI w 15) ≤ x10 → vp_in x10 (mL 16) ∧ (¬ (mA w 16 x10.toNatClampNeg) = x1 → p_X12_item_76 Q f x1 x2 x3 x4 x5 x6 x7 x8 0 (x10 + 1) w) ∧ ((mA w 16 x10.toNatClampNeg) = x1 → p_X12_item_76 Q f x1 x2 x3 x4 x5 x6 x7 x8 1 (x10 + 1) w)))))
def p_X12_item_67 (Q : MS → Prop) (x1 : Int32) (x2 : Int32) (x3 : Int32) (x4 : Int32) (x5 : Int32) (x6 : Int32) (x7 : Int32) (w : MS) : Prop :=
    ∃ f94 : Nat, p_X12_item_76 Q f94 x1 x2 x3 x4 x5 x6 x7 0 0 0 w
def p_X12_item_20 (Q : MS → Prop) (x1 : Int32) (x2 : Int32) (x3 : Int32) (x4 : Int32) (x5 : Int32) (x6 : Int32) (xs0 : Int32) (w : MS) : Prop :=
    p_X12_isIn x2 0 2 w (fun x54 w55 => (x54 = 0 → p_X12_item_67 Q x1 x2 x3 x4 x5 x6 xs0 w55) ∧ (¬ x54 = 0 → p_X12_isIn x3 1 9 w55 (fun x95 w96 => (x95 = 0 → p_X12_item_67 Q x1 x2 x3 x4 x5 x6 xs0 w96) ∧ (¬ x95 = 0 → p_X12_isIn x4 1 20 w96 (fun x98 w99 => (x98 = 0 → p_X12_item_67 Q x1 x2 x3 x4 x5 x6 xs0 w99) ∧ (¬ x98 = 0 → p_X12_isIn x6 1 12 w99 (fun x101 w102 => (x101 = 0 → p_X12_item_67 Q x1 x2 x3 x4 x5 x6 xs0 w102) ∧ (¬ x101 = 0 → ∃ f104 : Nat, p_X12_item_76 Q f104 x1 x2 x3 x4 x5 x6 xs0 1 0 0 w102))))))))
def p_X12_item_19 (Q : MS → Prop) (x1 : Int32) (x2 : Int32) (x3 : Int32) (x4 : Int32) (x5 : Int32) (x6 : Int32) (w : MS) : Prop :=
    p_X12_item_20 Q x1 x2 x3 x4 x5 x6 0 w
def p_X12_item (x1 : Int32) (x2 : Int32) (x3 : Int32) (x4 : Int32) (x5 : Int32) (x6 : Int32) (w : MS) (Q : MS → Prop) : Prop :=
    p_X12_isItem x1 w (fun x51 w52 => (x51 = 0 → p_X12_item_19 Q x1 x2 x3 x4 x5 x6 w52) ∧ (¬ x51 = 0 → p_X12_isGroup x5 w52 (fun x105 w106 => (x105 = 0 → p_X12_item_19 Q x1 x2 x3 x4 x5 x6 w106) ∧ (¬ x105 = 0 → p_X12_item_20 Q x1 x2 x3 x4 x5 x6 1 w106))))
def p_X12_judge_77 (Q : Int32 → MS → Prop) (x1 : Int32) (xs1 : Int32) (xs2 : Int32) (xs3 : Int32) (w : MS) : Prop :=
    p_X12_books xs1 xs2 xs3 w (fun w68 => vp_in (228 + x1) (mL 19) ∧ Q (mA w68 19 (228 + x1).toNatClampNeg) w68)
def p_X12_judge_47 (Q : Int32 → MS → Prop) (x1 : Int32) (x2 : Int32) (x3 : Int32) (xs1 : Int32) (w : MS) : Prop :=
    p_X12_holds xs1 w (fun x61 w62 => (¬ x61 = 0 → p_X12_books 19 x1 (-x2) w62 (fun w65 => (x3 = 0 → p_X12_judge_77 Q x1 18 x1 0 w65) ∧ (¬ x3 = 0 → p_X12_judge_77 Q x1 18 x1 x2 w65))) ∧ (x61 = 0 → Q 0 w62))
def p_X12_judge (x1 : Int32) (x2 : Int32) (x3 : Int32) (w : MS) (Q : Int32 → MS → Prop) : Prop :=
    p_X12_isLot x1 w (fun x51 w52 => (¬ x51 = 0 → p_X12_arePieces x2 w52 (fun x54 w55 => (¬ x54 = 0 → vp_in (228 + x1) (mL 19) ∧ (x2 ≤ (mA w55 19 (228 + x1).toNatClampNeg) → p_X12_judge_47 Q x1 x2 x3 0 w55) ∧ (¬ x2 ≤ (mA w55 19 (228 + x1).toNatClampNeg) → p_X12_judge_47 Q x1 x2 x3 3 w55)) ∧ (x54 = 0 → p_X12_judge_47 Q x1 x2 x3 2 w55))) ∧ (x51 = 0 → p_X12_judge_47 Q x1 x2 x3 1 w52))
def p_X12_lacks_40 (Q : Int32 → MS → Prop) (x1 : Int32) (x2 : Int32) (xs1 : Int32) (w : MS) : Prop :=
    p_X12_holds xs1 w (fun x55 w56 => (x55 = 0 → Q 0 w56) ∧ (¬ x55 = 0 → p_X12_lacking ((3 * x1) + x2) w56 (fun x58 w59 => Q x58 w59)))
def p_X12_lacks_29 (Q : Int32 → MS → Prop) (x1 : Int32) (x2 : Int32) (xs0 : Int32) (w : MS) : Prop :=
    (xs0 = 0 → p_X12_lacks_40 Q x1 x2 1 w) ∧ (¬ xs0 = 0 → p_X12_lacks_40 Q x1 x2 0 w)
def p_X12_lacks_28 (Q : Int32 → MS → Prop) (x1 : Int32) (x2 : Int32) (w : MS) : Prop :=
    p_X12_lacks_29 Q x1 x2 0 w
def p_X12_lacks (x1 : Int32) (x2 : Int32) (w : MS) (Q : Int32 → MS → Prop) : Prop :=
    p_X12_isOrder x1 w (fun x51 w52 => (x51 = 0 → p_X12_lacks_28 Q x1 x2 w52) ∧ (¬ x51 = 0 → vp_in x1 (mL 31) ∧ p_X12_isIn x2 0 ((mA w52 31 x1.toNatClampNeg) - 1) w52 (fun x63 w64 => (x63 = 0 → p_X12_lacks_28 Q x1 x2 w64) ∧ (¬ x63 = 0 → p_X12_lacks_29 Q x1 x2 1 w64))))
def p_X12_line_67 (Q : Int32 → MS → Prop) (x1 : Int32) (x2 : Int32) (x3 : Int32) (xs1 : Int32) (w : MS) : Prop :=
    p_X12_holds xs1 w (fun x62 w63 => (¬ x62 = 0 → vp_in x1 (mL 31) ∧ ∀ x68 : Int32, x68 = (3 * x1) + (mA w63 31 x1.toNatClampNeg) → vp_in x68 (mL 36) ∧ ∀ w72 : MS, w72 = mSA 36 x68.toNatClampNeg x2 w63 → vp_in x68 (mL 37) ∧ ∀ w76 : MS, w76 = mSA 37 x68.toNatClampNeg x3 w72 → vp_in x1 (mL 31) ∧ vp_in x1 (mL 31) ∧ ∀ w81 : MS, w81 = mSA 31 x1.toNatClampNeg ((mA w76 31 x1.toNatClampNeg) + 1) w76 → vp_in x1 (mL 31) ∧ Q (mA w81 31 x1.toNatClampNeg) w81) ∧ (x62 = 0 → Q 0 w63))
def p_X12_line_20 (Q : Int32 → MS → Prop) (x1 : Int32) (x2 : Int32) (x3 : Int32) (xs0 : Int32) (w : MS) : Prop :=
    (¬ xs0 = 0 → p_X12_arePieces x3 w (fun x55 w56 => (¬ x55 = 0 → vp_in x1 (mL 31) ∧ ((mA w56 31 x1.toNatClampNeg) = 3 → p_X12_line_67 Q x1 x2 x3 3 w56) ∧ (¬ (mA w56 31 x1.toNatClampNeg) = 3 → vp_in x1 (mL 32) ∧ ((mA w56 32 x1.toNatClampNeg) = 0 → p_X12_line_67 Q x1 x2 x3 0 w56) ∧ (¬ (mA w56 32 x1.toNatClampNeg) = 0 → p_X12_line_67 Q x1 x2 x3 3 w56))) ∧ (x55 = 0 → p_X12_line_67 Q x1 x2 x3 2 w56))) ∧ (xs0 = 0 → p_X12_line_67 Q x1 x2 x3 1 w)
def p_X12_line_19 (Q : Int32 → MS → Prop) (x1 : Int32) (x2 : Int32) (x3 : Int32) (w : MS) : Prop :=
    p_X12_line_20 Q x1 x2 x3 0 w
def p_X12_line (x1 : Int32) (x2 : Int32) (x3 : Int32) (w : MS) (Q : Int32 → MS → Prop) : Prop :=
    p_X12_isOrder x1 w (fun x51 w52 => (x51 = 0 → p_X12_line_19 Q x1 x2 x3 w52) ∧ (¬ x51 = 0 → p_X12_isItem x2 w52 (fun x89 w90 => (x89 = 0 → p_X12_line_19 Q x1 x2 x3 w90) ∧ (¬ x89 = 0 → p_X12_line_20 Q x1 x2 x3 1 w90))))
def p_X12_lose_44 (Q : Int32 → MS → Prop) (x1 : Int32) (x2 : Int32) (x3 : Int32) (xs1 : Int32) (w : MS) : Prop :=
    p_X12_holds xs1 w (fun x58 w59 => (¬ x58 = 0 → ∀ x62 : Int32, x62 = (12 * x1) + x2 → vp_in x62 (mL 20) ∧ vp_in ((12 * x1) + x2) (mL 20) ∧ p_X12_less x3 (mA w59 20 ((12 * x1) + x2).toNatClampNeg) w59 (fun x68 w69 => vp_in x62 (mL 20) ∧ ∀ w71 : MS, w71 = mSA 20 x62.toNatClampNeg ((mA w59 20 x62.toNatClampNeg) - x68) w69 → vp_in ((12 * x1) + x2) (mL 20) ∧ Q (mA w71 20 ((12 * x1) + x2).toNatClampNeg) w71)) ∧ (x58 = 0 → Q 0 w59))
def p_X12_lose_20 (Q : Int32 → MS → Prop) (x1 : Int32) (x2 : Int32) (x3 : Int32) (xs0 : Int32) (w : MS) : Prop :=
    (¬ xs0 = 0 → p_X12_arePieces x3 w (fun x55 w56 => (x55 = 0 → p_X12_lose_44 Q x1 x2 x3 2 w56) ∧ (¬ x55 = 0 → p_X12_lose_44 Q x1 x2 x3 0 w56))) ∧ (xs0 = 0 → p_X12_lose_44 Q x1 x2 x3 1 w)
def p_X12_lose_19 (Q : Int32 → MS → Prop) (x1 : Int32) (x2 : Int32) (x3 : Int32) (w : MS) : Prop :=
    p_X12_lose_20 Q x1 x2 x3 0 w
def p_X12_lose (x1 : Int32) (x2 : Int32) (x3 : Int32) (w : MS) (Q : Int32 → MS → Prop) : Prop :=
    p_X12_isSlot x1 w (fun x51 w52 => (x51 = 0 → p_X12_lose_19 Q x1 x2 x3 w52) ∧ (¬ x51 = 0 → p_X12_isLot x2 w52 (fun x75 w76 => (x75 = 0 → p_X12_lose_19 Q x1 x2 x3 w76) ∧ (¬ x75 = 0 → p_X12_lose_20 Q x1 x2 x3 1 w76))))
def p_X12_lot_41 (Q : Int32 → MS → Prop) (x1 : Int32) (x2 : Int32) (xs1 : Int32) (w : MS) : Prop :=
    p_X12_holds xs1 w (fun x58 w59 => (¬ x58 = 0 → vp_in (mI w59 15) (mL 16) ∧ ∀ w64 : MS, w64 = mSA 16 (mI w59 15).toNatClampNeg x1 w59 → vp_in (mI w64 15) (mL 17) ∧ ∀ w68 : MS, w68 = mSA 17 (mI w64 15).toNatClampNeg x2 w64 → ∀ w69 : MS, w69 = mSI 15 ((mI w68 15) + 1) w68 → Q ((mI w69 15) - 1) w69) ∧ (x58 = 0 → Q 0 w59))
def p_X12_lot (x1 : Int32) (x2 : Int32) (w : MS) (Q : Int32 → MS → Prop) : Prop :=
    p_X12_isItem x1 w (fun x51 w52 => (¬ x51 = 0 → p_X12_isIn x2 0 9999 w52 (fun x54 w55 => (¬ x54 = 0 → (¬ (mI w55 15) = 12 → p_X12_lot_41 Q x1 x2 0 w55) ∧ ((mI w55 15) = 12 → p_X12_lot_41 Q x1 x2 3 w55)) ∧ (x54 = 0 → p_X12_lot_41 Q x1 x2 2 w55))) ∧ (x51 = 0 → p_X12_lot_41 Q x1 x2 1 w52))
def p_X12_notice_37 (Q : Int32 → MS → Prop) (x1 : Int32) (x2 : Int32) (xs1 : Int32) (w : MS) : Prop :=
    p_X12_holds xs1 w (fun x58 w59 => (¬ x58 = 0 → vp_in (mI w59 22) (mL 23) ∧ ∀ w64 : MS, w64 = mSA 23 (mI w59 22).toNatClampNeg x1 w59 → vp_in (mI w64 22) (mL 24) ∧ ∀ w68 : MS, w68 = mSA 24 (mI w64 22).toNatClampNeg x2 w64 → ∀ w69 : MS, w69 = mSI 22 ((mI w68 22) + 1) w68 → Q ((mI w69 22) - 1) w69) ∧ (x58 = 0 → Q 0 w59))
def p_X12_notice (x1 : Int32) (x2 : Int32) (w : MS) (Q : Int32 → MS → Prop) : Prop :=
    p_X12_isItem x1 w (fun x51 w52 => (¬ x51 = 0 → p_X12_arePieces x2 w52 (fun x54 w55 => (¬ x54 = 0 → (¬ (mI w55 22) = 8 → p_X12_notice_37 Q x1 x2 0 w55) ∧ ((mI w55 22) = 8 → p_X12_notice_37 Q x1 x2 3 w55)) ∧ (x54 = 0 → p_X12_notice_37 Q x1 x2 2 w55))) ∧ (x51 = 0 → p_X12_notice_37 Q x1 x2 1 w52))
def p_X12_others_14 (Q : Int32 → MS → Prop) (x1 : Int32) (xs1 : Int32) (w : MS) : Prop :=
    p_X12_holds xs1 w (fun x54 w55 => (x54 = 0 → Q 0 w55) ∧ (¬ x54 = 0 → p_X12_cameOf x1 0 w55 (fun x57 w58 => Q x57 w58)))
def p_X12_others (x1 : Int32) (w : MS) (Q : Int32 → MS → Prop) : Prop :=
    p_X12_isNotice x1 w (fun x51 w52 => (x51 = 0 → p_X12_others_14 Q x1 1 w52) ∧ (¬ x51 = 0 → p_X12_others_14 Q x1 0 w52))
def p_X12_recall_145 (Q : Int32 → MS → Prop) : Nat → Int32 → Int32 → Int32 → MS → Prop
  | 0, _, _, _, _ => False
  | f + 1, x1, x3, x4, w =>
    ((mI w 27) ≤ x4 → Q x3 w) ∧ (¬ (mI w 27) ≤ x4 → vp_in ((12 * x4) + x1) (mL 33) ∧ ∀ x73 : Int32, x73 = x3 + (mA w 33 ((12 * x4) + x1).toNatClampNeg) → p_X12_recall_145 Q f x1 x73 (x4 + 1) w)
def p_X12_recall_88 (Q : Int32 → MS → Prop) : Nat → Int32 → Int32 → MS → Prop
  | 0, _, _, _ => False
  | f + 1, x1, x3, w =>
    ((mI w 45) ≤ x3 → p_X12_tidies  w (fun w68 => ∃ f74 : Nat, p_X12_recall_145 Q f74 x1 0 0 w68)) ∧ (¬ (mI w 45) ≤ x3 → p_X12_isOn x3 w (fun x75 w76 => (x75 = 0 → p_X12_recall_88 Q f x1 (x3 + 1) w76) ∧ (¬ x75 = 0 → vp_in x3 (mL 46) ∧ (¬ (mA w76 46 x3.toNatClampNeg) = 2 → p_X12_recall_88 Q f x1 (x3 + 1) w76) ∧ ((mA w76 46 x3.toNatClampNeg) = 2 → vp_in x3 (mL 47) ∧ (¬ (mA w76 47 x3.toNatClampNeg) = x1 → p_X12_recall_88 Q f x1 (x3 + 1) w76) ∧ ((mA w76 47 x3.toNatClampNeg) = x1 → p_X12_ends x3 3 w76 (fun w87 => p_X12_recall_88 Q f x1 (x3 + 1) w87))))))
def p_X12_recall_79 (Q : Int32 → MS → Prop) (K46 : Int32 → Int32 → MS → Prop) (x1 : Int32) (x3 : Int32) (os0 : Nat) (xs1 : Int32) (xs2 : Int32) (w : MS) : Prop :=
    isA os0 = true ∧ vp_in xs1 (mL os0) ∧ ∀ w99 : MS, w99 = mSA os0 xs1.toNatClampNeg xs2 w → K46 x1 (x3 + 1) w99
def p_X12_recall_46 (Q : Int32 → MS → Prop) : Nat → Int32 → Int32 → MS → Prop
  | 0, _, _, _ => False
  | f + 1, x1, x3, w =>
    ((mI w 39) ≤ x3 → ∃ f88 : Nat, p_X12_recall_88 Q f88 x1 0 w) ∧ (¬ (mI w 39) ≤ x3 → vp_in x3 (mL 42) ∧ (¬ (mA w 42 x3.toNatClampNeg) = x1 → vp_in x3 (mL 43) ∧ p_X12_recall_79 Q (p_X12_recall_46 Q  f) x1 x3 43 x3 (mA w 43 x3.toNatClampNeg) w) ∧ ((mA w 42 x3.toNatClampNeg) = x1 → p_X12_recall_79 Q (p_X12_recall_46 Q  f) x1 x3 43 x3 0 w))
def p_X12_recall_29 (Q : Int32 → MS → Prop) (x1 : Int32) (xs1 : Int32) (w : MS) : Prop :=
    p_X12_holds xs1 w (fun x58 w59 => (¬ x58 = 0 → vp_in x1 (mL 18) ∧ ∀ w64 : MS, w64 = mSA 18 x1.toNatClampNeg 1 w59 → ∃ f100 : Nat, p_X12_recall_46 Q f100 x1 0 w64) ∧ (x58 = 0 → Q 0 w59))
def p_X12_recall (x1 : Int32) (w : MS) (Q : Int32 → MS → Prop) : Prop :=
    p_X12_isLot x1 w (fun x51 w52 => (¬ x51 = 0 → vp_in x1 (mL 18) ∧ ((mA w52 18 x1.toNatClampNeg) = 0 → p_X12_recall_29 Q x1 0 w52) ∧ (¬ (mA w52 18 x1.toNatClampNeg) = 0 → p_X12_recall_29 Q x1 2 w52)) ∧ (x51 = 0 → p_X12_recall_29 Q x1 1 w52))
def p_X12_receive_58 (Q : Int32 → MS → Prop) (x1 : Int32) (x2 : Int32) (x3 : Int32) (xs1 : Int32) (w : MS) : Prop :=
    p_X12_holds xs1 w (fun x62 w63 => (¬ x62 = 0 → ∀ x66 : Int32, x66 = (12 * x1) + x2 → vp_in x66 (mL 26) ∧ vp_in x66 (mL 26) ∧ ∀ w70 : MS, w70 = mSA 26 x66.toNatClampNeg ((mA w63 26 x66.toNatClampNeg) + x3) w63 → p_X12_books 18 x2 x3 w70 (fun w72 => ∀ w73 : MS, w73 = mSI 2 ((mI w72 2) + (2 * x3)) w72 → vp_in (216 + x2) (mL 19) ∧ Q (mA w73 19 (216 + x2).toNatClampNeg) w73)) ∧ (x62 = 0 → Q 0 w63))
def p_X12_receive_21 (Q : Int32 → MS → Prop) (x1 : Int32) (x2 : Int32) (x3 : Int32) (xs0 : Int32) (w : MS) : Prop :=
    (¬ xs0 = 0 → p_X12_arePieces x3 w (fun x55 w56 => (¬ x55 = 0 → vp_in x1 (mL 25) ∧ ((mA w56 25 x1.toNatClampNeg) = 0 → p_X12_receive_58 Q x1 x2 x3 0 w56) ∧ (¬ (mA w56 25 x1.toNatClampNeg) = 0 → p_X12_receive_58 Q x1 x2 x3 3 w56)) ∧ (x55 = 0 → p_X12_receive_58 Q x1 x2 x3 2 w56))) ∧ (xs0 = 0 → p_X12_receive_58 Q x1 x2 x3 1 w)
def p_X12_receive_20 (Q : Int32 → MS → Prop) (x1 : Int32) (x2 : Int32) (x3 : Int32) (w : MS) : Prop :=
    p_X12_receive_21 Q x1 x2 x3 0 w
def p_X12_receive (x1 : Int32) (x2 : Int32) (x3 : Int32) (w : MS) (Q : Int32 → MS → Prop) : Prop :=
    p_X12_isNotice x1 w (fun x51 w52 => (x51 = 0 → p_X12_receive_20 Q x1 x2 x3 w52) ∧ (¬ x51 = 0 → p_X12_isLot x2 w52 (fun x77 w78 => (x77 = 0 → p_X12_receive_20 Q x1 x2 x3 w78) ∧ (¬ x77 = 0 → p_X12_receive_21 Q x1 x2 x3 1 w78))))
def p_X12_received_22 (Q : Int32 → MS → Prop) (x1 : Int32) (x2 : Int32) (xs1 : Int32) (w : MS) : Prop :=
    p_X12_holds xs1 w (fun x54 w55 => (x54 = 0 → Q 0 w55) ∧ (¬ x54 = 0 → vp_in ((12 * x1) + x2) (mL 26) ∧ Q (mA w55 26 ((12 * x1) + x2).toNatClampNeg) w55))
def p_X12_received_21 (Q : Int32 → MS → Prop) (x1 : Int32) (x2 : Int32) (w : MS) : Prop :=
    p_X12_received_22 Q x1 x2 1 w
def p_X12_received (x1 : Int32) (x2 : Int32) (w : MS) (Q : Int32 → MS → Prop) : Prop :=
    p_X12_isNotice x1 w (fun x51 w52 => (x51 = 0 → p_X12_received_21 Q x1 x2 w52) ∧ (¬ x51 = 0 → p_X12_isLot x2 w52 (fun x60 w61 => (x60 = 0 → p_X12_received_21 Q x1 x2 w61) ∧ (¬ x60 = 0 → p_X12_received_22 Q x1 x2 0 w61))))
def p_X12_roomLeft_15 (Q : Int32 → MS → Prop) : Nat → Int32 → Int32 → Int32 → MS → Prop
  | 0, _, _, _, _ => False
  | f + 1, x1, x2, x3, w =>
    ((mI w 15) ≤ x3 → Q x2 w) ∧ (¬ (mI w 15) ≤ x3 → vp_in ((12 * x1) + x3) (mL 19) ∧ vp_in x3 (mL 16) ∧ vp_in (mA w 16 x3.toNatClampNeg) (mL 10) ∧ ∀ x67 : Int32, x67 = x2 - ((mA w 19 ((12 * x1) + x3).toNatClampNeg) * (mA w 10 (mA w 16 x3.toNatClampNeg).toNatClampNeg)) → p_X12_roomLeft_15 Q f x1 x67 (x3 + 1) w)
def p_X12_roomLeft (x1 : Int32) (w : MS) (Q : Int32 → MS → Prop) : Prop :=
    vp_in x1 (mL 5) ∧ p_X12_roomHeld x1 w (fun x54 w55 => ∀ x56 : Int32, x56 = (mA w 5 x1.toNatClampNeg) - x54 → ∃ f68 : Nat, p_X12_roomLeft_15 Q f68 x1 x56 0 w55)
def p_X12_send_245 (Q : Int32 → MS → Prop) : Nat → Int32 → Int32 → Int32 → MS → Prop
  | 0, _, _, _, _ => False
  | f + 1, x1, x3, x4, w =>
    ((mI w 45) ≤ x4 → p_X12_tidies  w (fun w83 => Q x3 w83)) ∧ (¬ (mI w 45) ≤ x4 → p_X12_isOn x4 w (fun x84 w85 => (x84 = 0 → p_X12_send_245 Q f x1 x3 (x4 + 1) w85) ∧ (¬ x84 = 0 → vp_in x4 (mL 46) ∧ (¬ (mA w85 46 x4.toNatClampNeg) = 2 → p_X12_send_245 Q f x1 x3 (x4 + 1) w85) ∧ ((mA w85 46 x4.toNatClampNeg) = 2 → vp_in x4 (mL 50) ∧ (¬ ((mA w85 50 x4.toNatClampNeg) / 3) = x1 → p_X12_send_245 Q f x1 x3 (x4 + 1) w85) ∧ (((mA w85 50 x4.toNatClampNeg) / 3) = x1 → p_X12_ends x4 3 w85 (fun w96 => p_X12_send_245 Q f x1 x3 (x4 + 1) w96))))))
def p_X12_send_235 (Q : Int32 → MS → Prop) (K196 : Int32 → Int32 → Int32 → MS → Prop) (x1 : Int32) (x3 : Int32) (x4 : Int32) (os0 : Nat) (xs1 : Int32) (xs2 : Int32) (w : MS) : Prop :=
    isA os0 = true ∧ vp_in xs1 (mL os0) ∧ ∀ w108 : MS, w108 = mSA os0 xs1.toNatClampNeg xs2 w → K196 x1 x3 (x4 + 1) w108
def p_X12_send_196 (Q : Int32 → MS → Prop) : Nat → Int32 → Int32 → Int32 → MS → Prop
  | 0, _, _, _, _ => False
  | f + 1, x1, x3, x4, w =>
    ((mI w 39) ≤ x4 → ∃ f97 : Nat, p_X12_send_245 Q f97 x1 x3 0 w) ∧ (¬ (mI w 39) ≤ x4 → vp_in x4 (mL 40) ∧ (¬ ((mA w 40 x4.toNatClampNeg) / 3) = x1 → vp_in x4 (mL 43) ∧ p_X12_send_235 Q (p_X12_send_196 Q  f) x1 x3 x4 43 x4 (mA w 43 x4.toNatClampNeg) w) ∧ (((mA w 40 x4.toNatClampNeg) / 3) = x1 → p_X12_send_235 Q (p_X12_send_196 Q  f) x1 x3 x4 43 x4 0 w))
def p_X12_send_122 (Q : Int32 → MS → Prop) : Nat → Int32 → Int32 → Int32 → MS → Prop
  | 0, _, _, _, _ => False
  | f + 1, x1, x3, x4, w =>
    ((mI w 15) ≤ x4 → vp_in x1 (mL 32) ∧ ∀ w79 : MS, w79 = mSA 32 x1.toNatClampNeg 1 w → ∃ f109 : Nat, p_X12_send_196 Q f109 x1 x3 0 w79) ∧ (¬ (mI w 15) ≤ x4 → vp_in ((12 * (20 + x1)) + x4) (mL 19) ∧ ∀ x113 : Int32, x113 = mA w 19 ((12 * (20 + x1)) + x4).toNatClampNeg → vp_in ((12 * x1) + x4) (mL 33) ∧ ∀ w117 : MS, w117 = mSA 33 ((12 * x1) + x4).toNatClampNeg x113 w → p_X12_books (20 + x1) x4 (-x113) w117 (fun w119 => ∀ x120 : Int32, x120 = x3 + x113 → p_X12_send_122 Q f x1 x120 (x4 + 1) w119))
def p_X12_send_70 (Q : Int32 → MS → Prop) : Nat → Int32 → Int32 → Int32 → MS → Prop
  | 0, _, _, _, _ => False
  | f + 1, x1, x3, x4, w =>
    vp_in x1 (mL 35) ∧ ((mA w 35 x1.toNatClampNeg) ≤ x4 → ∃ f121 : Nat, p_X12_send_122 Q f121 x1 x3 0 w) ∧ (¬ (mA w 35 x1.toNatClampNeg) ≤ x4 → vp_in x4 (mL 62) ∧ vp_in x4 (mL 63) ∧ vp_in ((300 * x1) + x4) (mL 34) ∧ ∀ w131 : MS, w131 = mSA 34 ((300 * x1) + x4).toNatClampNeg ((1000 * (mA w 62 x4.toNatClampNeg)) + (mA w 63 x4.toNatClampNeg)) w → p_X12_send_70 Q f x1 x3 (x4 + 1) w131)
def p_X12_send_29 (Q : Int32 → MS → Prop) (x1 : Int32) (xs1 : Int32) (w : MS) : Prop :=
    p_X12_holds xs1 w (fun x58 w59 => (¬ x58 = 0 → p_X12_packs x1 w59 (fun x62 w63 => vp_in x1 (mL 35) ∧ ∀ w66 : MS, w66 = mSA 35 x1.toNatClampNeg x62 w63 → vp_in x1 (mL 35) ∧ ∀ w70 : MS, w70 = mSI 2 ((mI w66 2) + (5 * (mA w66 35 x1.toNatClampNeg))) w66 → ∃ f132 : Nat, p_X12_send_70 Q f132 x1 0 0 w70)) ∧ (x58 = 0 → Q 0 w59))
def p_X12_send (x1 : Int32) (w : MS) (Q : Int32 → MS → Prop) : Prop :=
    p_X12_isOrder x1 w (fun x51 w52 => (¬ x51 = 0 → vp_in x1 (mL 32) ∧ ((mA w52 32 x1.toNatClampNeg) = 0 → p_X12_send_29 Q x1 0 w52) ∧ (¬ (mA w52 32 x1.toNatClampNeg) = 0 → p_X12_send_29 Q x1 2 w52)) ∧ (x51 = 0 → p_X12_send_29 Q x1 1 w52))
def p_X12_sent_22 (Q : Int32 → MS → Prop) (x1 : Int32) (x2 : Int32) (xs1 : Int32) (w : MS) : Prop :=
    p_X12_holds xs1 w (fun x54 w55 => (x54 = 0 → Q 0 w55) ∧ (¬ x54 = 0 → vp_in ((12 * x1) + x2) (mL 33) ∧ Q (mA w55 33 ((12 * x1) + x2).toNatClampNeg) w55))
def p_X12_sent_21 (Q : Int32 → MS → Prop) (x1 : Int32) (x2 : Int32) (w : MS) : Prop :=
    p_X12_sent_22 Q x1 x2 1 w
def p_X12_sent (x1 : Int32) (x2 : Int32) (w : MS) (Q : Int32 → MS → Prop) : Prop :=
    p_X12_isOrder x1 w (fun x51 w52 => (x51 = 0 → p_X12_sent_21 Q x1 x2 w52) ∧ (¬ x51 = 0 → p_X12_isLot x2 w52 (fun x60 w61 => (x60 = 0 → p_X12_sent_21 Q x1 x2 w61) ∧ (¬ x60 = 0 → p_X12_sent_22 Q x1 x2 0 w61))))
def p_X12_shorts_206 (Q : MS → Prop) : Nat → Int32 → Int32 → Int32 → Int32 → Int32 → MS → Prop
  | 0, _, _, _, _, _, _ => False
  | f + 1, x1, x2, x4, x5, x6, w =>
    ((mI w 45) ≤ x6 → Q w) ∧ (¬ (mI w 45) ≤ x6 → (x6 = x4 → p_X12_shorts_206 Q f x1 x2 x4 x5 (x6 + 1) w) ∧ (¬ x6 = x4 → p_X12_isOn x6 w (fun x64 w65 => (x64 = 0 → p_X12_shorts_206 Q f x1 x2 x4 x5 (x6 + 1) w65) ∧ (¬ x64 = 0 → vp_in x6 (mL 46) ∧ (¬ (mA w65 46 x6.toNatClampNeg) = 1 → p_X12_shorts_206 Q f x1 x2 x4 x5 (x6 + 1) w65) ∧ ((mA w65 46 x6.toNatClampNeg) = 1 → vp_in x6 (mL 48) ∧ (¬ (mA w65 48 x6.toNatClampNeg) = x1 → p_X12_shorts_206 Q f x1 x2 x4 x5 (x6 + 1) w65) ∧ ((mA w65 48 x6.toNatClampNeg) = x1 → vp_in x6 (mL 47) ∧ (¬ (mA w65 47 x6.toNatClampNeg) = x2 → p_X12_shorts_206 Q f x1 x2 x4 x5 (x6 + 1) w65) ∧ ((mA w65 47 x6.toNatClampNeg) = x2 → p_X12_keeps x6 x5 w65 (fun x79 w80 => ∀ x81 : Int32, x81 = x5 - x79 → p_X12_shorts_206 Q f x1 x2 x4 x81 (x6 + 1) w80))))))))
def p_X12_shorts_87 (Q : MS → Prop) (K43 : Int32 → Int32 → Int32 → Int32 → Int32 → MS → Prop) (x1 : Int32) (x2 : Int32) (x4 : Int32) (x5 : Int32) (x6 : Int32) (x7 : Int32) (xs0 : Int32) (w : MS) : Prop :=
    vp_in x7 (mL 40) ∧ ¬ (mI w 39) = 0 ∧ (¬ ((mA w 40 x7.toNatClampNeg) / 3) = (x6 / (mI w 39)) → K43 x1 x2 x4 x5 (x6 + 1) w) ∧ (((mA w 40 x7.toNatClampNeg) / 3) = (x6 / (mI w 39)) → vp_in x7 (mL 41) ∧ (¬ (mA w 41 x7.toNatClampNeg) = x1 → K43 x1 x2 x4 x5 (x6 + 1) w) ∧ ((mA w 41 x7.toNatClampNeg) = x1 → vp_in x7 (mL 42) ∧ (¬ (mA w 42 x7.toNatClampNeg) = x2 → K43 x1 x2 x4 x5 (x6 + 1) w) ∧ ((mA w 42 x7.toNatClampNeg) = x2 → (xs0 = 0 → K43 x1 x2 x4 x5 (x6 + 1) w) ∧ (¬ xs0 = 0 → vp_in x7 (mL 43) ∧ p_X12_less (mA w 43 x7.toNatClampNeg) x5 w (fun x104 w105 => vp_in x7 (mL 43) ∧ ∀ w108 : MS, w108 = mSA 43 x7.toNatClampNeg x104 w105 → vp_in x7 (mL 43) ∧ ∀ x112 : Int32, x112 = x5 - (mA w108 43 x7.toNatClampNeg) → vp_in x7 (mL 44) ∧ ((mA w108 44 x7.toNatClampNeg) = (-1) → K43 x1 x2 x4 x112 (x6 + 1) w108) ∧ (¬ (mA w108 44 x7.toNatClampNeg) = (-1) → vp_in x7 (mL 44) ∧ vp_in x7 (mL 43) ∧ p_X12_keeps (mA w108 44 x7.toNatClampNeg) (mA w108 43 x7.toNatClampNeg) w108 (fun x123 w124 => K43 x1 x2 x4 x112 (x6 + 1) w124)))))))
def p_X12_shorts_43 (Q : MS → Prop) : Nat → Int32 → Int32 → Int32 → Int32 → Int32 → MS → Prop
  | 0, _, _, _, _, _, _ => False
  | f + 1, x1, x2, x4, x5, x6, w =>
    ((8 * (mI w 39)) ≤ x6 → ∃ f82 : Nat, p_X12_shorts_206 Q f82 x1 x2 x4 x5 0 w) ∧ (¬ (8 * (mI w 39)) ≤ x6 → ¬ (mI w 39) = 0 ∧ ∀ x84 : Int32, x84 = x6 - x6 / (mI w 39) * (mI w 39) → (x4 = (-1) → p_X12_shorts_87 Q (p_X12_shorts_43 Q  f) x1 x2 x4 x5 x6 x84 1 w) ∧ (¬ x4 = (-1) → vp_in x84 (mL 44) ∧ ((mA w 44 x84.toNatClampNeg) = x4 → p_X12_shorts_87 Q (p_X12_shorts_43 Q  f) x1 x2 x4 x5 x6 x84 0 w) ∧ (¬ (mA w 44 x84.toNatClampNeg) = x4 → p_X12_shorts_87 Q (p_X12_shorts_43 Q  f) x1 x2 x4 x5 x6 x84 1 w)))
def p_X12_shorts (x1 : Int32) (x2 : Int32) (x3 : Int32) (x4 : Int32) (w : MS) (Q : MS → Prop) : Prop :=
    vp_in ((12 * x1) + x2) (mL 19) ∧ p_X12_books x1 x2 (x3 - (mA w 19 ((12 * x1) + x2).toNatClampNeg)) w (fun w55 => (¬ x4 = (-1) → vp_in x4 (mL 51) ∧ ∀ x60 : Int32, x60 = x3 - (mA w55 51 x4.toNatClampNeg) → ∃ f129 : Nat, p_X12_shorts_43 Q f129 x1 x2 x4 x60 0 w55) ∧ (x4 = (-1) → ∀ x130 : Int32, x130 = x3 - 0 → ∃ f131 : Nat, p_X12_shorts_43 Q f131 x1 x2 x4 x130 0 w55))
def p_X12_taskAt_14 (Q : Int32 → MS → Prop) (x1 : Int32) (xs1 : Int32) (w : MS) : Prop :=
    p_X12_holds xs1 w (fun x54 w55 => (x54 = 0 → Q 0 w55) ∧ (¬ x54 = 0 → vp_in x1 (mL 46) ∧ vp_in x1 (mL 52) ∧ vp_in x1 (mL 51) ∧ Q (((1000 * (mA w55 46 x1.toNatClampNeg)) + (100 * (mA w55 52 x1.toNatClampNeg))) + (mA w55 51 x1.toNatClampNeg)) w55))
def p_X12_taskAt (x1 : Int32) (w : MS) (Q : Int32 → MS → Prop) : Prop :=
    p_X12_isTask x1 w (fun x51 w52 => (x51 = 0 → p_X12_taskAt_14 Q x1 1 w52) ∧ (¬ x51 = 0 → p_X12_taskAt_14 Q x1 0 w52))
def p_X12_wave_92 (Q : Int32 → MS → Prop) : Nat → Int32 → Int32 → Int32 → Int32 → MS → Prop
  | 0, _, _, _, _, _ => False
  | f + 1, x1, x2, x6, x7, w =>
    (18 ≤ x7 → Q x6 w) ∧ (¬ 18 ≤ x7 → (x6 ≤ 0 → Q x6 w) ∧ (¬ x6 ≤ 0 → p_X12_slotAt x7 w (fun x66 w67 => p_X12_makesPicks x1 x2 x66 w67 (fun w69 => p_X12_wave_92 Q f x1 x2 x6 (x7 + 1) w69))))
def p_X12_wave_74 (Q : Int32 → MS → Prop) (x1 : Int32) (x2 : Int32) (xs1 : Int32) (w : MS) : Prop :=
    p_X12_holds xs1 w (fun x59 w60 => (¬ x59 = 0 → p_X12_picks x2 w60 (fun x62 w63 => ∃ f70 : Nat, p_X12_wave_92 Q f70 x1 x2 x62 0 w63)) ∧ (x59 = 0 → Q 0 w60))
def p_X12_wave_44 (Q : Int32 → MS → Prop) (x1 : Int32) (x2 : Int32) (x3 : Int32) (x4 : Int32) (xs0 : Int32) (w : MS) : Prop :=
    (¬ x3 = 0 → (¬ x4 = 0 → (xs0 = 0 → p_X12_wave_74 Q x1 x2 3 w) ∧ (¬ xs0 = 0 → p_X12_wave_74 Q x1 x2 0 w)) ∧ (x4 = 0 → p_X12_wave_74 Q x1 x2 2 w)) ∧ (x3 = 0 → p_X12_wave_74 Q x1 x2 1 w)
def p_X12_wave_43 (Q : Int32 → MS → Prop) (x1 : Int32) (x2 : Int32) (x3 : Int32) (x4 : Int32) (w : MS) : Prop :=
    p_X12_wave_44 Q x1 x2 x3 x4 0 w
def p_X12_wave (x1 : Int32) (x2 : Int32) (w : MS) (Q : Int32 → MS → Prop) : Prop :=
    p_X12_isRobot x1 w (fun x51 w52 => p_X12_isIn x2 1 255 w52 (fun x53 w54 => (x51 = 0 → p_X12_wave_43 Q x1 x2 x51 x53 w54) ∧ (¬ x51 = 0 → (x53 = 0 → p_X12_wave_43 Q x1 x2 x51 x53 w54) ∧ (¬ x53 = 0 → p_X12_picks x2 w54 (fun x72 w73 => (60 < ((mI w54 45) + x72) → p_X12_wave_43 Q x1 x2 x51 x53 w73) ∧ (¬ 60 < ((mI w54 45) + x72) → p_X12_wave_44 Q x1 x2 x51 x53 1 w73))))))
def p_X12_where_13 (Q : Int32 → MS → Prop) (x1 : Int32) (xs1 : Int32) (w : MS) : Prop :=
    p_X12_holds xs1 w (fun x54 w55 => (¬ x54 = 0 → vp_in x1 (mL 55) ∧ (¬ (mA w55 55 x1.toNatClampNeg) = (-1) → vp_in x1 (mL 55) ∧ vp_in x1 (mL 56) ∧ Q ((10 * (mA w55 55 x1.toNatClampNeg)) + (mA w55 56 x1.toNatClampNeg)) w55) ∧ ((mA w55 55 x1.toNatClampNeg) = (-1) → Q (-1) w55)) ∧ (x54 = 0 → Q 0 w55))
def p_X12_where (x1 : Int32) (w : MS) (Q : Int32 → MS → Prop) : Prop :=
    p_X12_isRobot x1 w (fun x51 w52 => (x51 = 0 → p_X12_where_13 Q x1 1 w52) ∧ (¬ x51 = 0 → p_X12_where_13 Q x1 0 w52))
def p_X12_boxAt_39 (Q : Int32 → MS → Prop) (x1 : Int32) (x2 : Int32) (xs1 : Int32) (w : MS) : Prop :=
    p_X12_holds xs1 w (fun x55 w56 => (¬ x55 = 0 → vp_in x1 (mL 32) ∧ ((mA w56 32 x1.toNatClampNeg) = 0 → vp_in x2 (mL 62) ∧ vp_in x2 (mL 63) ∧ Q ((1000 * (mA w56 62 x2.toNatClampNeg)) + (mA w56 63 x2.toNatClampNeg)) w56) ∧ (¬ (mA w56 32 x1.toNatClampNeg) = 0 → vp_in ((300 * x1) + x2) (mL 34) ∧ Q (mA w56 34 ((300 * x1) + x2).toNatClampNeg) w56)) ∧ (x55 = 0 → Q 0 w56))
def p_X12_boxAt_28 (Q : Int32 → MS → Prop) (x1 : Int32) (x2 : Int32) (xs0 : Int32) (w : MS) : Prop :=
    (xs0 = 0 → p_X12_boxAt_39 Q x1 x2 1 w) ∧ (¬ xs0 = 0 → p_X12_boxAt_39 Q x1 x2 0 w)
def p_X12_boxAt_27 (Q : Int32 → MS → Prop) (x1 : Int32) (x2 : Int32) (w : MS) : Prop :=
    p_X12_boxAt_28 Q x1 x2 0 w
def p_X12_boxAt (x1 : Int32) (x2 : Int32) (w : MS) (Q : Int32 → MS → Prop) : Prop :=
    p_X12_isOrder x1 w (fun x51 w52 => (x51 = 0 → p_X12_boxAt_27 Q x1 x2 w52) ∧ (¬ x51 = 0 → p_X12_boxesOf x1 w52 (fun x71 w72 => p_X12_isIn x2 0 (x71 - 1) w72 (fun x73 w74 => (x73 = 0 → p_X12_boxAt_27 Q x1 x2 w74) ∧ (¬ x73 = 0 → p_X12_boxAt_28 Q x1 x2 1 w74)))))
def p_X12_boxes_14 (Q : Int32 → MS → Prop) (x1 : Int32) (xs1 : Int32) (w : MS) : Prop :=
    p_X12_holds xs1 w (fun x54 w55 => (x54 = 0 → Q 0 w55) ∧ (¬ x54 = 0 → p_X12_boxesOf x1 w55 (fun x57 w58 => Q x57 w58)))
def p_X12_boxes (x1 : Int32) (w : MS) (Q : Int32 → MS → Prop) : Prop :=
    p_X12_isOrder x1 w (fun x51 w52 => (x51 = 0 → p_X12_boxes_14 Q x1 1 w52) ∧ (¬ x51 = 0 → p_X12_boxes_14 Q x1 0 w52))
def p_X12_count_144 (Q : Int32 → MS → Prop) (x1 : Int32) (x2 : Int32) (x3 : Int32) (x4 : Int32) (x5 : Int32) (w : MS) : Prop :=
    (x5 = 0 → Q x4 w) ∧ (¬ x5 = 0 → vp_in x3 (mL 19) ∧ p_X12_books x1 x2 (x4 - (mA w 19 x3.toNatClampNeg)) w (fun w81 => Q x4 w81))
def p_X12_count_111 (Q : Int32 → MS → Prop) (x1 : Int32) (x2 : Int32) (x3 : Int32) (x4 : Int32) (x5 : Int32) (os0 : Nat) (xs1 : Int32) (xs2 : Int32) (w : MS) : Prop :=
    isA os0 = true ∧ vp_in xs1 (mL os0) ∧ ∀ w74 : MS, w74 = mSA os0 xs1.toNatClampNeg xs2 w → (x5 = 0 → p_X12_count_144 Q x1 x2 x3 x4 x5 w74) ∧ (¬ x5 = 0 → vp_in x3 (mL 19) ∧ ((mA w74 19 x3.toNatClampNeg) ≤ x4 → p_X12_count_144 Q x1 x2 x3 x4 x5 w74) ∧ (¬ (mA w74 19 x3.toNatClampNeg) ≤ x4 → p_X12_shorts x1 x2 x4 (-1) w74 (fun w87 => p_X12_tidies  w87 (fun w89 => Q x4 w89))))
def p_X12_count_82 (Q : Int32 → MS → Prop) (x1 : Int32) (x2 : Int32) (x3 : Int32) (x4 : Int32) (xs0 : Int32) (w : MS) : Prop :=
    vp_in x3 (mL 19) ∧ (x4 = (mA w 19 x3.toNatClampNeg) → p_X12_count_111 Q x1 x2 x3 x4 xs0 21 x3 (-1) w) ∧ (¬ x4 = (mA w 19 x3.toNatClampNeg) → (xs0 = 0 → p_X12_count_111 Q x1 x2 x3 x4 xs0 21 x3 x4 w) ∧ (¬ xs0 = 0 → p_X12_count_111 Q x1 x2 x3 x4 xs0 21 x3 (-1) w))
def p_X12_count_81 (Q : Int32 → MS → Prop) (x1 : Int32) (x2 : Int32) (x3 : Int32) (x4 : Int32) (w : MS) : Prop :=
    p_X12_count_82 Q x1 x2 x3 x4 0 w
def p_X12_count_21 (Q : Int32 → MS → Prop) (x1 : Int32) (x2 : Int32) (xs1 : Int32) (w : MS) : Prop :=
    p_X12_holds xs1 w (fun x54 w55 => (¬ x54 = 0 → ∀ x57 : Int32, x57 = (12 * x1) + x2 → vp_in x57 (mL 20) ∧ ∀ x61 : Int32, x61 = mA w55 20 x57.toNatClampNeg → ∀ w62 : MS, w62 = mSI 2 ((mI w55 2) + 6) w55 → vp_in x57 (mL 19) ∧ (x61 = (mA w62 19 x57.toNatClampNeg) → p_X12_count_81 Q x1 x2 x57 x61 w62) ∧ (¬ x61 = (mA w62 19 x57.toNatClampNeg) → vp_in x57 (mL 21) ∧ (¬ (mA w62 21 x57.toNatClampNeg) = x61 → p_X12_count_81 Q x1 x2 x57 x61 w62) ∧ ((mA w62 21 x57.toNatClampNeg) = x61 → p_X12_count_82 Q x1 x2 x57 x61 1 w62))) ∧ (x54 = 0 → Q 0 w55))
def p_X12_count_20 (Q : Int32 → MS → Prop) (x1 : Int32) (x2 : Int32) (w : MS) : Prop :=
    p_X12_count_21 Q x1 x2 1 w
def p_X12_count (x1 : Int32) (x2 : Int32) (w : MS) (Q : Int32 → MS → Prop) : Prop :=
    p_X12_isSlot x1 w (fun x51 w52 => (x51 = 0 → p_X12_count_20 Q x1 x2 w52) ∧ (¬ x51 = 0 → p_X12_isLot x2 w52 (fun x95 w96 => (x95 = 0 → p_X12_count_20 Q x1 x2 w96) ∧ (¬ x95 = 0 → p_X12_count_21 Q x1 x2 0 w96))))
def p_X12_does_195 (Q : MS → Prop) (x1 : Int32) (x2 : Int32) (w : MS) : Prop :=
    vp_in x1 (mL 46) ∧ (¬ (mA w 46 x1.toNatClampNeg) = 2 → vp_in x1 (mL 51) ∧ (¬ (mA w 51 x1.toNatClampNeg) = 0 → vp_in x1 (mL 54) ∧ ∀ w85 : MS, w85 = mSA 54 x1.toNatClampNeg 1 w → Q w85) ∧ ((mA w 51 x1.toNatClampNeg) = 0 → p_X12_ends x1 3 w (fun w87 => Q w87))) ∧ ((mA w 46 x1.toNatClampNeg) = 2 → vp_in x1 (mL 48) ∧ ∀ x92 : Int32, x92 = (12 * (mA w 48 x1.toNatClampNeg)) + x2 → vp_in x92 (mL 20) ∧ vp_in x1 (mL 51) ∧ vp_in x92 (mL 20) ∧ ∀ w99 : MS, w99 = mSA 20 x92.toNatClampNeg ((mA w 20 x92.toNatClampNeg) - (mA w 51 x1.toNatClampNeg)) w → vp_in x1 (mL 50) ∧ ∀ x104 : Int32, x104 = mA w99 50 x1.toNatClampNeg → vp_in x104 (mL 38) ∧ vp_in x1 (mL 51) ∧ vp_in x104 (mL 38) ∧ ∀ w111 : MS, w111 = mSA 38 x104.toNatClampNeg ((mA w99 38 x104.toNatClampNeg) + (mA w99 51 x1.toNatClampNeg)) w99 → vp_in x1 (mL 51) ∧ p_X12_moves x1 (mA w111 51 x1.toNatClampNeg) w111 (fun w116 => Q w116))
def p_X12_does_144 (Q : MS → Prop) (x1 : Int32) (x2 : Int32) (w : MS) : Prop :=
    vp_in x1 (mL 48) ∧ vp_in ((12 * (mA w 48 x1.toNatClampNeg)) + x2) (mL 20) ∧ ∀ x69 : Int32, x69 = mA w 20 ((12 * (mA w 48 x1.toNatClampNeg)) + x2).toNatClampNeg → vp_in x1 (mL 51) ∧ ((mA w 51 x1.toNatClampNeg) ≤ x69 → p_X12_does_195 Q x1 x2 w) ∧ (¬ (mA w 51 x1.toNatClampNeg) ≤ x69 → vp_in x1 (mL 51) ∧ ∀ w120 : MS, w120 = mSA 51 x1.toNatClampNeg x69 w → vp_in x1 (mL 48) ∧ p_X12_shorts (mA w120 48 x1.toNatClampNeg) x2 x69 x1 w120 (fun w125 => p_X12_tidies  w125 (fun w127 => p_X12_does_195 Q x1 x2 w127)))
def p_X12_does (x1 : Int32) (w : MS) (Q : MS → Prop) : Prop :=
    vp_in x1 (mL 47) ∧ ∀ x54 : Int32, x54 = mA w 47 x1.toNatClampNeg → vp_in x1 (mL 46) ∧ (¬ (mA w 46 x1.toNatClampNeg) = 0 → vp_in x1 (mL 46) ∧ (¬ (mA w 46 x1.toNatClampNeg) = 1 → p_X12_does_144 Q x1 x54 w) ∧ ((mA w 46 x1.toNatClampNeg) = 1 → vp_in x1 (mL 54) ∧ ((mA w 54 x1.toNatClampNeg) = 0 → p_X12_does_144 Q x1 x54 w) ∧ (¬ (mA w 54 x1.toNatClampNeg) = 0 → vp_in x1 (mL 51) ∧ vp_in x1 (mL 48) ∧ vp_in ((12 * (mA w 48 x1.toNatClampNeg)) + x54) (mL 20) ∧ p_X12_less (mA w 51 x1.toNatClampNeg) (mA w 20 ((12 * (mA w 48 x1.toNatClampNeg)) + x54).toNatClampNeg) w (fun x141 w142 => vp_in x1 (mL 48) ∧ ∀ x147 : Int32, x147 = (12 * (mA w142 48 x1.toNatClampNeg)) + x54 → vp_in x147 (mL 20) ∧ vp_in x147 (mL 20) ∧ ∀ w151 : MS, w151 = mSA 20 x147.toNatClampNeg ((mA w142 20 x147.toNatClampNeg) - x141) w142 → vp_in x1 (mL 49) ∧ ∀ x156 : Int32, x156 = (12 * (mA w151 49 x1.toNatClampNeg)) + x54 → vp_in x156 (mL 20) ∧ vp_in x156 (mL 20) ∧ ∀ w160 : MS, w160 = mSA 20 x156.toNatClampNeg ((mA w151 20 x156.toNatClampNeg) + x141) w151 → p_X12_moves x1 4 w160 (fun w162 => Q w162))))) ∧ ((mA w 46 x1.toNatClampNeg) = 0 → vp_in x1 (mL 49) ∧ ∀ x167 : Int32, x167 = (12 * (mA w 49 x1.toNatClampNeg)) + x54 → vp_in x167 (mL 20) ∧ vp_in x1 (mL 51) ∧ vp_in x167 (mL 20) ∧ ∀ w174 : MS, w174 = mSA 20 x167.toNatClampNeg ((mA w 20 x167.toNatClampNeg) + (mA w 51 x1.toNatClampNeg)) w → p_X12_moves x1 3 w174 (fun w176 => Q w176))
def p_X12_face_136 (Q : MS → Prop) (x1 : Int32) (x2 : Int32) (x3 : Int32) (x4 : Int32) (xs1 : Int32) (w : MS) : Prop :=
    p_X12_holds xs1 w (fun x62 w63 => (x62 = 0 → Q w63) ∧ (¬ x62 = 0 → vp_in x1 (mL 6) ∧ ∀ w68 : MS, w68 = mSA 6 x1.toNatClampNeg x2 w63 → vp_in x1 (mL 7) ∧ ∀ w72 : MS, w72 = mSA 7 x1.toNatClampNeg x3 w68 → vp_in x1 (mL 8) ∧ ∀ w76 : MS, w76 = mSA 8 x1.toNatClampNeg x4 w72 → Q w76))
def p_X12_face_105 (Q : MS → Prop) (x1 : Int32) (x2 : Int32) (x3 : Int32) (x4 : Int32) (x5 : Int32) (x7 : Int32) (xs0 : Int32) (w : MS) : Prop :=
    (¬ x5 = 0 → (¬ x7 = 0 → (xs0 = 0 → p_X12_face_136 Q x1 x2 x3 x4 3 w) ∧ (¬ xs0 = 0 → p_X12_face_136 Q x1 x2 x3 x4 0 w)) ∧ (x7 = 0 → p_X12_face_136 Q x1 x2 x3 x4 2 w)) ∧ (x5 = 0 → p_X12_face_136 Q x1 x2 x3 x4 1 w)
def p_X12_face_104 (Q : MS → Prop) (x1 : Int32) (x2 : Int32) (x3 : Int32) (x4 : Int32) (x5 : Int32) (x7 : Int32) (w : MS) : Prop :=
    p_X12_face_105 Q x1 x2 x3 x4 x5 x7 0 w
def p_X12_face_65 (Q : MS → Prop) (x1 : Int32) (x2 : Int32) (x3 : Int32) (x4 : Int32) (x5 : Int32) (xs0 : Int32) (w : MS) : Prop :=
    (x5 = 0 → p_X12_face_104 Q x1 x2 x3 x4 x5 xs0 w) ∧ (¬ x5 = 0 → p_X12_isEmpty x1 w (fun x77 w78 => (x77 = 0 → p_X12_face_104 Q x1 x2 x3 x4 x5 xs0 w78) ∧ (¬ x77 = 0 → (x2 = (-1) → p_X12_face_105 Q x1 x2 x3 x4 x5 xs0 1 w78) ∧ (¬ x2 = (-1) → vp_in x2 (mL 9) ∧ vp_in x1 (mL 4) ∧ (¬ (mA w78 9 x2.toNatClampNeg) = (mA w78 4 x1.toNatClampNeg) → p_X12_face_104 Q x1 x2 x3 x4 x5 xs0 w78) ∧ ((mA w78 9 x2.toNatClampNeg) = (mA w78 4 x1.toNatClampNeg) → p_X12_face_105 Q x1 x2 x3 x4 x5 xs0 1 w78)))))
def p_X12_face_64 (Q : MS → Prop) (x1 : Int32) (x2 : Int32) (x3 : Int32) (x4 : Int32) (x5 : Int32) (w : MS) : Prop :=
    p_X12_face_65 Q x1 x2 x3 x4 x5 0 w
def p_X12_face_37 (Q : MS → Prop) (x1 : Int32) (x2 : Int32) (x3 : Int32) (x4 : Int32) (x5 : Int32) (xs0 : Int32) (w : MS) : Prop :=
    p_X12_isIn x3 0 xs0 w (fun x55 w56 => (x55 = 0 → p_X12_face_64 Q x1 x2 x3 x4 x5 w56) ∧ (¬ x55 = 0 → p_X12_isIn x4 x3 xs0 w56 (fun x88 w89 => (x88 = 0 → p_X12_face_64 Q x1 x2 x3 x4 x5 w89) ∧ (¬ x88 = 0 → p_X12_face_65 Q x1 x2 x3 x4 x5 1 w89))))
def p_X12_face_24 (Q : MS → Prop) (x1 : Int32) (x2 : Int32) (x3 : Int32) (x4 : Int32) (xs0 : Int32) (w : MS) : Prop :=
    (¬ x2 = (-1) → p_X12_face_37 Q x1 x2 x3 x4 xs0 99 w) ∧ (x2 = (-1) → p_X12_face_37 Q x1 x2 x3 x4 xs0 0 w)
def p_X12_face_23 (Q : MS → Prop) (x1 : Int32) (x2 : Int32) (x3 : Int32) (x4 : Int32) (w : MS) : Prop :=
    p_X12_face_24 Q x1 x2 x3 x4 0 w
def p_X12_face (x1 : Int32) (x2 : Int32) (x3 : Int32) (x4 : Int32) (w : MS) (Q : MS → Prop) : Prop :=
    p_X12_isSlot x1 w (fun x51 w52 => (x51 = 0 → p_X12_face_23 Q x1 x2 x3 x4 w52) ∧ (¬ x51 = 0 → (x2 = (-1) → p_X12_face_24 Q x1 x2 x3 x4 1 w52) ∧ (¬ x2 = (-1) → p_X12_isItem x2 w52 (fun x92 w93 => (x92 = 0 → p_X12_face_23 Q x1 x2 x3 x4 w93) ∧ (¬ x92 = 0 → p_X12_face_24 Q x1 x2 x3 x4 1 w93)))))
def p_X12_free (x1 : Int32) (x2 : Int32) (w : MS) (Q : Int32 → MS → Prop) : Prop :=
    p_X12_isAsked x1 18 x2 w (fun x51 w52 => (x51 = 0 → Q 0 w52) ∧ (¬ x51 = 0 → p_X12_freeAt x1 x2 w52 (fun x54 w55 => Q x54 w55)))
def p_X12_holdsFor_219 (Q : Int32 → MS → Prop) (K33 : Int32 → Int32 → Int32 → Int32 → Int32 → Int32 → MS → Prop) (x1 : Int32) (x3 : Int32) (x4 : Int32) (x5 : Int32) (x6 : Int32) (x7 : Int32) (w : MS) : Prop :=
    p_X12_nextLot x4 x7 w (fun x69 w70 => K33 x1 x3 x4 x5 x6 x69 w70)
def p_X12_holdsFor_117 (Q : Int32 → MS → Prop) (K33 : Int32 → Int32 → Int32 → Int32 → Int32 → Int32 → MS → Prop) (K70 : Int32 → Int32 → Int32 → Int32 → Int32 → Int32 → Int32 → Int32 → MS → Prop) (x1 : Int32) (x3 : Int32) (x4 : Int32) (x5 : Int32) (x6 : Int32) (x7 : Int32) (x8 : Int32) (x9 : Int32) (x10 : Int32) (xs0 : Int32) (xs1 : Int32) (w : MS) : Prop :=
    (¬ xs0 = xs1 → K70 x1 x3 x4 x5 x6 x7 x8 (x9 + 1) w) ∧ (xs0 = xs1 → p_X12_freeAt x10 x7 w (fun x79 w80 => p_X12_less x79 (x5 - x6) w80 (fun x81 w82 => (x81 ≤ 0 → K70 x1 x3 x4 x5 x6 x7 x8 (x9 + 1) w82) ∧ (¬ x81 ≤ 0 → vp_in (mI w82 39) (mL 40) ∧ ∀ w87 : MS, w87 = mSA 40 (mI w82 39).toNatClampNeg x3 w82 → vp_in (mI w87 39) (mL 41) ∧ ∀ w91 : MS, w91 = mSA 41 (mI w87 39).toNatClampNeg x10 w87 → vp_in (mI w91 39) (mL 42) ∧ ∀ w95 : MS, w95 = mSA 42 (mI w91 39).toNatClampNeg x7 w91 → vp_in (mI w95 39) (mL 43) ∧ ∀ w99 : MS, w99 = mSA 43 (mI w95 39).toNatClampNeg x81 w95 → vp_in (mI w99 39) (mL 44) ∧ ∀ w103 : MS, w103 = mSA 44 (mI w99 39).toNatClampNeg (-1) w99 → ∀ w104 : MS, w104 = mSI 39 ((mI w103 39) + 1) w103 → ∀ x105 : Int32, x105 = x6 + x81 → K70 x1 x3 x4 x5 x105 x7 x8 (x9 + 1) w104))))
def p_X12_holdsFor_101 (Q : Int32 → MS → Prop) (K33 : Int32 → Int32 → Int32 → Int32 → Int32 → Int32 → MS → Prop) (K70 : Int32 → Int32 → Int32 → Int32 → Int32 → Int32 → Int32 → Int32 → MS → Prop) (x1 : Int32) (x3 : Int32) (x4 : Int32) (x5 : Int32) (x6 : Int32) (x7 : Int32) (x8 : Int32) (x9 : Int32) (x10 : Int32) (xs0 : Int32) (w : MS) : Prop :=
    vp_in x10 (mL 6) ∧ ((mA w 6 x10.toNatClampNeg) = (-1) → p_X12_holdsFor_117 Q K33 K70 x1 x3 x4 x5 x6 x7 x8 x9 x10 xs0 0 w) ∧ (¬ (mA w 6 x10.toNatClampNeg) = (-1) → p_X12_holdsFor_117 Q K33 K70 x1 x3 x4 x5 x6 x7 x8 x9 x10 xs0 1 w)
def p_X12_holdsFor_70 (Q : Int32 → MS → Prop) (K33 : Int32 → Int32 → Int32 → Int32 → Int32 → Int32 → MS → Prop) : Nat → Int32 → Int32 → Int32 → Int32 → Int32 → Int32 → Int32 → Int32 → MS → Prop
  | 0, _, _, _, _, _, _, _, _, _ => False
  | f + 1, x1, x3, x4, x5, x6, x7, x8, x9, w =>
    (36 ≤ x9 → p_X12_holdsFor_219 Q K33 x1 x3 x4 x5 x6 x7 w) ∧ (¬ 36 ≤ x9 → (x8 = 0 → p_X12_holdsFor_219 Q K33 x1 x3 x4 x5 x6 x7 w) ∧ (¬ x8 = 0 → ∀ x72 : Int32, x72 = x9 - x9 / 18 * 18 → (18 ≤ x9 → p_X12_holdsFor_101 Q K33 (p_X12_holdsFor_70 Q K33 f) x1 x3 x4 x5 x6 x7 x8 x9 x72 0 w) ∧ (¬ 18 ≤ x9 → p_X12_holdsFor_101 Q K33 (p_X12_holdsFor_70 Q K33 f) x1 x3 x4 x5 x6 x7 x8 x9 x72 1 w)))
def p_X12_holdsFor_33 (Q : Int32 → MS → Prop) : Nat → Int32 → Int32 → Int32 → Int32 → Int32 → Int32 → MS → Prop
  | 0, _, _, _, _, _, _, _ => False
  | f + 1, x1, x3, x4, x5, x6, x7, w =>
    (x7 = (-1) → Q x6 w) ∧ (¬ x7 = (-1) → vp_in x7 (mL 17) ∧ vp_in x1 (mL 30) ∧ ((mA w 17 x7.toNatClampNeg) < ((mI w 1) + (mA w 30 x1.toNatClampNeg)) → ∃ f106 : Nat, p_X12_holdsFor_70 Q (p_X12_holdsFor_33 Q  f) f106 x1 x3 x4 x5 x6 x7 0 0 w) ∧ (¬ (mA w 17 x7.toNatClampNeg) < ((mI w 1) + (mA w 30 x1.toNatClampNeg)) → ∃ f107 : Nat, p_X12_holdsFor_70 Q (p_X12_holdsFor_33 Q  f) f107 x1 x3 x4 x5 x6 x7 1 0 w))
def p_X12_holdsFor (x1 : Int32) (x2 : Int32) (w : MS) (Q : Int32 → MS → Prop) : Prop :=
    ∀ x51 : Int32, x51 = (3 * x1) + x2 → vp_in x51 (mL 36) ∧ ∀ x55 : Int32, x55 = mA w 36 x51.toNatClampNeg → p_X12_lacking x51 w (fun x56 w57 => p_X12_nextLot x55 (-1) w57 (fun x58 w59 => ∃ f108 : Nat, p_X12_holdsFor_33 Q f108 x1 x51 x55 x56 0 x58 w59))
def p_X12_isBarredAt_52 (Q : Int32 → MS → Prop) (x1 : Int32) (x2 : Int32) (x4 : Int32) (w : MS) : Prop :=
    (x4 = 0 → Q 0 w) ∧ (¬ x4 = 0 → p_X12_isBarredIn (x1 + 1) x2 w (fun x58 w59 => (x58 = 0 → Q 0 w59) ∧ (¬ x58 = 0 → Q 1 w59)))
def p_X12_isBarredAt_26 (Q : Int32 → MS → Prop) (x1 : Int32) (x2 : Int32) (x3 : Int32) (xs0 : Int32) (w : MS) : Prop :=
    p_X12_isBarredIn x1 x2 w (fun x53 w54 => (¬ x53 = 0 → Q 1 w54) ∧ (x53 = 0 → (x3 = 0 → p_X12_isBarredAt_52 Q x1 x2 xs0 w54) ∧ (¬ x3 = 0 → p_X12_isBarredIn (x1 - 1) x2 w54 (fun x61 w62 => (¬ x61 = 0 → Q 1 w62) ∧ (x61 = 0 → p_X12_isBarredAt_52 Q x1 x2 xs0 w62)))))
def p_X12_isBarredAt_12 (Q : Int32 → MS → Prop) (x1 : Int32) (x2 : Int32) (xs0 : Int32) (w : MS) : Prop :=
    (5 ≤ (x1 - x1 / 6 * 6) → p_X12_isBarredAt_26 Q x1 x2 xs0 0 w) ∧ (¬ 5 ≤ (x1 - x1 / 6 * 6) → p_X12_isBarredAt_26 Q x1 x2 xs0 1 w)
def p_X12_isBarredAt (x1 : Int32) (x2 : Int32) (w : MS) (Q : Int32 → MS → Prop) : Prop :=
    ((x1 - x1 / 6 * 6) ≤ 0 → p_X12_isBarredAt_12 Q x1 x2 0 w) ∧ (¬ (x1 - x1 / 6 * 6) ≤ 0 → p_X12_isBarredAt_12 Q x1 x2 1 w)
def p_X12_refills_225 (Q : Int32 → MS → Prop) (x7 : Int32) (w : MS) : Prop :=
    (x7 ≤ 0 → Q 0 w) ∧ (¬ x7 ≤ 0 → Q 1 w)
def p_X12_refills_203 (Q : Int32 → MS → Prop) (x1 : Int32) (x4 : Int32) (x5 : Int32) (xs0 : Int32) (w : MS) : Prop :=
    (xs0 ≤ 0 → p_X12_refills_225 Q xs0 w) ∧ (¬ xs0 ≤ 0 → p_X12_makes 1 x4 x5 x1 (-1) xs0 w (fun x94 w95 => p_X12_refills_225 Q xs0 w95))
def p_X12_refills_145 (Q : Int32 → MS → Prop) (K106 : Int32 → Int32 → Int32 → Int32 → MS → Prop) (K115 : Int32 → Int32 → Int32 → Int32 → Int32 → MS → Prop) (x1 : Int32) (x2 : Int32) (x3 : Int32) (x4 : Int32) (x5 : Int32) (xs0 : Int32) (w : MS) : Prop :=
    (xs0 ≤ 0 → K115 x1 x2 x3 x4 (x5 + 1) w) ∧ (¬ xs0 ≤ 0 → vp_in x1 (mL 8) ∧ p_X12_less xs0 ((mA w 8 x1.toNatClampNeg) - x3) w (fun x77 w78 => p_X12_roomLeft x1 w78 (fun x79 w80 => vp_in x2 (mL 10) ∧ ¬ (mA w80 10 x2.toNatClampNeg) = 0 ∧ p_X12_less x77 (x79 / (mA w80 10 x2.toNatClampNeg)) w80 (fun x85 w86 => (0 ≤ x85 → vp_in x2 (mL 13) ∧ ¬ (mA w86 13 x2.toNatClampNeg) = 0 ∧ p_X12_refills_203 Q x1 x4 x5 (x85 - (x85 - x85 / (mA w86 13 x2.toNatClampNeg) * (mA w86 13 x2.toNatClampNeg))) w86) ∧ (¬ 0 ≤ x85 → p_X12_refills_203 Q x1 x4 x5 0 w86)))))
def p_X12_refills_115 (Q : Int32 → MS → Prop) (K106 : Int32 → Int32 → Int32 → Int32 → MS → Prop) : Nat → Int32 → Int32 → Int32 → Int32 → Int32 → MS → Prop
  | 0, _, _, _, _, _, _ => False
  | f + 1, x1, x2, x3, x4, x5, w =>
    (18 ≤ x5 → p_X12_nextLot x2 x4 w (fun x67 w68 => K106 x1 x2 x3 x67 w68)) ∧ (¬ 18 ≤ x5 → vp_in x5 (mL 6) ∧ (¬ (mA w 6 x5.toNatClampNeg) = (-1) → p_X12_refills_145 Q K106 (p_X12_refills_115 Q K106 f) x1 x2 x3 x4 x5 0 w) ∧ ((mA w 6 x5.toNatClampNeg) = (-1) → p_X12_freeAt x5 x4 w (fun x96 w97 => p_X12_refills_145 Q K106 (p_X12_refills_115 Q K106 f) x1 x2 x3 x4 x5 x96 w97)))
def p_X12_refills_106 (Q : Int32 → MS → Prop) : Nat → Int32 → Int32 → Int32 → Int32 → MS → Prop
  | 0, _, _, _, _, _ => False
  | f + 1, x1, x2, x3, x4, w =>
    (x4 = (-1) → Q 0 w) ∧ (¬ x4 = (-1) → ∃ f98 : Nat, p_X12_refills_115 Q (p_X12_refills_106 Q  f) f98 x1 x2 x3 x4 0 w)
def p_X12_refills_17 (Q : Int32 → MS → Prop) : Nat → Int32 → Int32 → Int32 → Int32 → MS → Prop
  | 0, _, _, _, _, _ => False
  | f + 1, x1, x2, x3, x4, w =>
    ((mI w 45) ≤ x4 → vp_in x1 (mL 7) ∧ ((mA w 7 x1.toNatClampNeg) ≤ x3 → Q 0 w) ∧ (¬ (mA w 7 x1.toNatClampNeg) ≤ x3 → (¬ (mI w 45) = 60 → p_X12_nextLot x2 (-1) w (fun x63 w64 => ∃ f99 : Nat, p_X12_refills_106 Q f99 x1 x2 x3 x63 w64)) ∧ ((mI w 45) = 60 → Q 0 w))) ∧ (¬ (mI w 45) ≤ x4 → p_X12_isOn x4 w (fun x100 w101 => (x100 = 0 → ∀ x103 : Int32, x103 = x3 + 0 → p_X12_refills_17 Q f x1 x2 x103 (x4 + 1) w101) ∧ (¬ x100 = 0 → vp_in x4 (mL 46) ∧ (¬ (mA w101 46 x4.toNatClampNeg) = 1 → ∀ x108 : Int32, x108 = x3 + 0 → p_X12_refills_17 Q f x1 x2 x108 (x4 + 1) w101) ∧ ((mA w101 46 x4.toNatClampNeg) = 1 → vp_in x4 (mL 49) ∧ (¬ (mA w101 49 x4.toNatClampNeg) = x1 → ∀ x113 : Int32, x113 = x3 + 0 → p_X12_refills_17 Q f x1 x2 x113 (x4 + 1) w101) ∧ ((mA w101 49 x4.toNatClampNeg) = x1 → vp_in x4 (mL 51) ∧ ∀ x117 : Int32, x117 = x3 + (mA w101 51 x4.toNatClampNeg) → p_X12_refills_17 Q f x1 x2 x117 (x4 + 1) w101)))))
def p_X12_refills (x1 : Int32) (w : MS) (Q : Int32 → MS → Prop) : Prop :=
    vp_in x1 (mL 6) ∧ ∀ x54 : Int32, x54 = mA w 6 x1.toNatClampNeg → p_X12_itemIn x1 x54 w (fun x55 w56 => ∃ f118 : Nat, p_X12_refills_17 Q f118 x1 x54 x55 0 w56)
def p_X12_room_13 (Q : Int32 → MS → Prop) (x1 : Int32) (xs1 : Int32) (w : MS) : Prop :=
    p_X12_holds xs1 w (fun x54 w55 => (x54 = 0 → Q 0 w55) ∧ (¬ x54 = 0 → p_X12_roomLeft x1 w55 (fun x57 w58 => Q x57 w58)))
def p_X12_room (x1 : Int32) (w : MS) (Q : Int32 → MS → Prop) : Prop :=
    p_X12_isSlot x1 w (fun x51 w52 => (x51 = 0 → p_X12_room_13 Q x1 1 w52) ∧ (¬ x51 = 0 → p_X12_room_13 Q x1 0 w52))
def p_X12_slot_63 (Q : MS → Prop) (x1 : Int32) (x2 : Int32) (x3 : Int32) (xs1 : Int32) (w : MS) : Prop :=
    p_X12_holds xs1 w (fun x57 w58 => (x57 = 0 → Q w58) ∧ (¬ x57 = 0 → vp_in x1 (mL 4) ∧ ∀ w63 : MS, w63 = mSA 4 x1.toNatClampNeg x2 w58 → vp_in x1 (mL 5) ∧ ∀ w67 : MS, w67 = mSA 5 x1.toNatClampNeg x3 w63 → Q w67))
def p_X12_slot (x1 : Int32) (x2 : Int32) (x3 : Int32) (w : MS) (Q : MS → Prop) : Prop :=
    p_X12_isSlot x1 w (fun x51 w52 => (¬ x51 = 0 → p_X12_isIn x2 0 2 w52 (fun x54 w55 => (x54 = 0 → p_X12_slot_63 Q x1 x2 x3 2 w55) ∧ (¬ x54 = 0 → p_X12_isIn x3 1 200 w55 (fun x68 w69 => (¬ x68 = 0 → p_X12_isEmpty x1 w69 (fun x71 w72 => (x71 = 0 → p_X12_slot_63 Q x1 x2 x3 3 w72) ∧ (¬ x71 = 0 → vp_in x1 (mL 6) ∧ ((mA w72 6 x1.toNatClampNeg) = (-1) → p_X12_slot_63 Q x1 x2 x3 0 w72) ∧ (¬ (mA w72 6 x1.toNatClampNeg) = (-1) → p_X12_slot_63 Q x1 x2 x3 3 w72)))) ∧ (x68 = 0 → p_X12_slot_63 Q x1 x2 x3 2 w69))))) ∧ (x51 = 0 → p_X12_slot_63 Q x1 x2 x3 1 w52))
def p_X12_stock (x1 : Int32) (x2 : Int32) (w : MS) (Q : Int32 → MS → Prop) : Prop :=
    p_X12_isAsked x1 27 x2 w (fun x51 w52 => (x51 = 0 → Q 0 w52) ∧ (¬ x51 = 0 → vp_in ((12 * x1) + x2) (mL 19) ∧ Q (mA w52 19 ((12 * x1) + x2).toNatClampNeg) w52))
def p_X12_stockAnew (x1 : Int32) (x2 : Int32) (w : MS) (Q : Int32 → MS → Prop) : Prop :=
    p_X12_isAsked x1 27 x2 w (fun x51 w52 => (x51 = 0 → Q 0 w52) ∧ (¬ x51 = 0 → vp_in ((12 * x1) + x2) (mL 19) ∧ Q (mA w52 19 ((12 * x1) + x2).toNatClampNeg) w52))
def p_X12_allocates_13 (Q : Int32 → MS → Prop) : Nat → Int32 → Int32 → Int32 → Int32 → Int32 → MS → Prop
  | 0, _, _, _, _, _, _ => False
  | f + 1, x1, x2, x3, x4, x5, w =>
    vp_in x1 (mL 31) ∧ ((mA w 31 x1.toNatClampNeg) ≤ x5 → vp_in x1 (mL 29) ∧ ((mA w 29 x1.toNatClampNeg) = 0 → Q x2 w) ∧ (¬ (mA w 29 x1.toNatClampNeg) = 0 → (x4 = 0 → Q x2 w) ∧ (¬ x4 = 0 → ∀ w61 : MS, w61 = mSI 39 x3 w → Q 0 w61))) ∧ (¬ (mA w 31 x1.toNatClampNeg) ≤ x5 → p_X12_holdsFor x1 x5 w (fun x62 w63 => ∀ x64 : Int32, x64 = x2 + x62 → (¬ x4 = 0 → p_X12_allocates_13 Q f x1 x64 x3 1 (x5 + 1) w63) ∧ (x4 = 0 → p_X12_lacking ((3 * x1) + x5) w63 (fun x66 w67 => (x66 ≤ 0 → p_X12_allocates_13 Q f x1 x64 x3 0 (x5 + 1) w67) ∧ (¬ x66 ≤ 0 → p_X12_allocates_13 Q f x1 x64 x3 1 (x5 + 1) w67)))))
def p_X12_allocates (x1 : Int32) (w : MS) (Q : Int32 → MS → Prop) : Prop :=
    ∀ x51 : Int32, x51 = mI w 39 → ∃ f69 : Nat, p_X12_allocates_13 Q f69 x1 0 x51 0 0 w
def p_X12_goesTo_65 (Q : MS → Prop) (os0 : Nat) (xs1 : Int32) (xs2 : Int32) (xs3 : Int32) (w : MS) : Prop :=
    isA os0 = true ∧ vp_in xs1 (mL os0) ∧ ∀ w85 : MS, w85 = mSA os0 xs1.toNatClampNeg (xs2 + xs3) w → Q w85
def p_X12_goesTo (x1 : Int32) (x2 : Int32) (x3 : Int32) (w : MS) (Q : MS → Prop) : Prop :=
    ∀ x51 : Int32, x51 = x3 / 6 → ∀ x52 : Int32, x52 = x3 - x3 / 6 * 6 → vp_in x1 (mL 55) ∧ (¬ (mA w 55 x1.toNatClampNeg) = x51 → p_X12_isHeldByOther x1 x51 w (fun x57 w58 => (x57 = 0 → vp_in x1 (mL 55) ∧ ∀ w63 : MS, w63 = mSA 55 x1.toNatClampNeg x51 w58 → vp_in x1 (mL 56) ∧ ∀ w67 : MS, w67 = mSA 56 x1.toNatClampNeg 0 w63 → Q w67) ∧ (¬ x57 = 0 → vp_in x1 (mL 57) ∧ ∀ w71 : MS, w71 = mSA 57 x1.toNatClampNeg x51 w58 → Q w71))) ∧ ((mA w 55 x1.toNatClampNeg) = x51 → vp_in x1 (mL 56) ∧ (¬ (mA w 56 x1.toNatClampNeg) = x52 → vp_in x1 (mL 56) ∧ vp_in x1 (mL 56) ∧ (x52 ≤ (mA w 56 x1.toNatClampNeg) → p_X12_goesTo_65 Q 56 x1 (mA w 56 x1.toNatClampNeg) (-1) w) ∧ (¬ x52 ≤ (mA w 56 x1.toNatClampNeg) → p_X12_goesTo_65 Q 56 x1 (mA w 56 x1.toNatClampNeg) 1 w)) ∧ ((mA w 56 x1.toNatClampNeg) = x52 → p_X12_does x2 w (fun w87 => Q w87)))
def p_X12_refill_9 (Q : Int32 → MS → Prop) : Nat → Int32 → Int32 → MS → Prop
  | 0, _, _, _ => False
  | f + 1, x1, x2, w =>
    (18 ≤ x2 → Q x1 w) ∧ (¬ 18 ≤ x2 → vp_in x2 (mL 6) ∧ ((mA w 6 x2.toNatClampNeg) = (-1) → ∀ x57 : Int32, x57 = x1 + 0 → p_X12_refill_9 Q f x57 (x2 + 1) w) ∧ (¬ (mA w 6 x2.toNatClampNeg) = (-1) → p_X12_refills x2 w (fun x58 w59 => (x58 = 0 → ∀ x61 : Int32, x61 = x1 + 0 → p_X12_refill_9 Q f x61 (x2 + 1) w59) ∧ (¬ x58 = 0 → ∀ x62 : Int32, x62 = x1 + 1 → p_X12_refill_9 Q f x62 (x2 + 1) w59))))
def p_X12_refill  (w : MS) (Q : Int32 → MS → Prop) : Prop :=
    ∀ w51 : MS, w51 = mSI 0 0 w → ∃ f63 : Nat, p_X12_refill_9 Q f63 0 0 w51
def p_X12_slotFor_162 (Q : Int32 → MS → Prop) (K16 : Int32 → Int32 → Int32 → Int32 → Int32 → Int32 → MS → Prop) (x1 : Int32) (x2 : Int32) (x4 : Int32) (x5 : Int32) (x6 : Int32) (x10 : Int32) (xs0 : Int32) (w : MS) : Prop :=
    (¬ xs0 = x6 → K16 x1 x2 xs0 x4 x5 (x6 + 1) w) ∧ (xs0 = x6 → K16 x1 x2 xs0 x10 x5 (x6 + 1) w)
def p_X12_slotFor_161 (Q : Int32 → MS → Prop) (K16 : Int32 → Int32 → Int32 → Int32 → Int32 → Int32 → MS → Prop) (x1 : Int32) (x2 : Int32) (x3 : Int32) (x4 : Int32) (x5 : Int32) (x6 : Int32) (x10 : Int32) (w : MS) : Prop :=
    p_X12_slotFor_162 Q K16 x1 x2 x4 x5 x6 x10 x3 w
def p_X12_slotFor_126 (Q : Int32 → MS → Prop) (K16 : Int32 → Int32 → Int32 → Int32 → Int32 → Int32 → MS → Prop) (x1 : Int32) (x2 : Int32) (x3 : Int32) (x4 : Int32) (x5 : Int32) (x6 : Int32) (x7 : Int32) (x8 : Int32) (xs0 : Int32) (w : MS) : Prop :=
    ∀ x69 : Int32, x69 = (1000 * xs0) + x7 → (x8 = 0 → p_X12_slotFor_161 Q K16 x1 x2 x3 x4 x5 x6 x69 w) ∧ (¬ x8 = 0 → (x3 = (-1) → p_X12_slotFor_162 Q K16 x1 x2 x4 x5 x6 x69 x6 w) ∧ (¬ x3 = (-1) → (x4 ≤ x69 → p_X12_slotFor_161 Q K16 x1 x2 x3 x4 x5 x6 x69 w) ∧ (¬ x4 ≤ x69 → p_X12_slotFor_162 Q K16 x1 x2 x4 x5 x6 x69 x6 w)))
def p_X12_slotFor_89 (Q : Int32 → MS → Prop) (K16 : Int32 → Int32 → Int32 → Int32 → Int32 → Int32 → MS → Prop) (x1 : Int32) (x2 : Int32) (x3 : Int32) (x4 : Int32) (x5 : Int32) (x6 : Int32) (x7 : Int32) (xs0 : Int32) (w : MS) : Prop :=
    vp_in ((12 * x6) + x1) (mL 19) ∧ ((mA w 19 ((12 * x6) + x1).toNatClampNeg) ≤ 0 → p_X12_itemIn x6 x5 w (fun x66 w67 => (x66 ≤ 0 → p_X12_slotFor_126 Q K16 x1 x2 x3 x4 x5 x6 x7 xs0 2 w67) ∧ (¬ x66 ≤ 0 → p_X12_slotFor_126 Q K16 x1 x2 x3 x4 x5 x6 x7 xs0 1 w67))) ∧ (¬ (mA w 19 ((12 * x6) + x1).toNatClampNeg) ≤ 0 → p_X12_slotFor_126 Q K16 x1 x2 x3 x4 x5 x6 x7 xs0 0 w)
def p_X12_slotFor_88 (Q : Int32 → MS → Prop) (K16 : Int32 → Int32 → Int32 → Int32 → Int32 → Int32 → MS → Prop) (x1 : Int32) (x2 : Int32) (x3 : Int32) (x4 : Int32) (x5 : Int32) (x6 : Int32) (x7 : Int32) (w : MS) : Prop :=
    p_X12_slotFor_89 Q K16 x1 x2 x3 x4 x5 x6 x7 0 w
def p_X12_slotFor_16 (Q : Int32 → MS → Prop) : Nat → Int32 → Int32 → Int32 → Int32 → Int32 → Int32 → MS → Prop
  | 0, _, _, _, _, _, _, _ => False
  | f + 1, x1, x2, x3, x4, x5, x6, w =>
    (18 ≤ x6 → Q x3 w) ∧ (¬ 18 ≤ x6 → p_X12_roomLeft x6 w (fun x56 w57 => vp_in x6 (mL 6) ∧ (¬ (mA w57 6 x6.toNatClampNeg) = (-1) → p_X12_slotFor_88 Q (p_X12_slotFor_16 Q  f) x1 x2 x3 x4 x5 x6 x56 w57) ∧ ((mA w57 6 x6.toNatClampNeg) = (-1) → vp_in x6 (mL 4) ∧ vp_in x5 (mL 9) ∧ (¬ (mA w57 4 x6.toNatClampNeg) = (mA w57 9 x5.toNatClampNeg) → p_X12_slotFor_88 Q (p_X12_slotFor_16 Q  f) x1 x2 x3 x4 x5 x6 x56 w57) ∧ ((mA w57 4 x6.toNatClampNeg) = (mA w57 9 x5.toNatClampNeg) → vp_in x5 (mL 10) ∧ (x56 < (x2 * (mA w57 10 x5.toNatClampNeg)) → p_X12_slotFor_88 Q (p_X12_slotFor_16 Q  f) x1 x2 x3 x4 x5 x6 x56 w57) ∧ (¬ x56 < (x2 * (mA w57 10 x5.toNatClampNeg)) → p_X12_isBarredAt x6 x5 w57 (fun x85 w86 => (¬ x85 = 0 → p_X12_slotFor_88 Q (p_X12_slotFor_16 Q  f) x1 x2 x3 x4 x5 x6 x56 w86) ∧ (x85 = 0 → p_X12_slotFor_89 Q (p_X12_slotFor_16 Q  f) x1 x2 x3 x4 x5 x6 x56 1 w86)))))))
def p_X12_slotFor (x1 : Int32) (x2 : Int32) (w : MS) (Q : Int32 → MS → Prop) : Prop :=
    vp_in x1 (mL 16) ∧ ∀ x54 : Int32, x54 = mA w 16 x1.toNatClampNeg → ∃ f88 : Nat, p_X12_slotFor_16 Q f88 x1 x2 (-1) 0 x54 0 w
def p_X12_allocate_16 (Q : Int32 → MS → Prop) (K10 : Int32 → Int32 → MS → Prop) : Nat → Int32 → Int32 → Int32 → MS → Prop
  | 0, _, _, _, _ => False
  | f + 1, x1, x2, x3, w =>
    ((mI w 27) ≤ x3 → K10 x1 (x2 + (-1)) w) ∧ (¬ (mI w 27) ≤ x3 → vp_in x3 (mL 32) ∧ (¬ (mA w 32 x3.toNatClampNeg) = 0 → ∀ x58 : Int32, x58 = x1 + 0 → p_X12_allocate_16 Q K10 f x58 x2 (x3 + 1) w) ∧ ((mA w 32 x3.toNatClampNeg) = 0 → vp_in x3 (mL 28) ∧ (¬ (mA w 28 x3.toNatClampNeg) = x2 → ∀ x63 : Int32, x63 = x1 + 0 → p_X12_allocate_16 Q K10 f x63 x2 (x3 + 1) w) ∧ ((mA w 28 x3.toNatClampNeg) = x2 → p_X12_allocates x3 w (fun x64 w65 => ∀ x66 : Int32, x66 = x1 + x64 → p_X12_allocate_16 Q K10 f x66 x2 (x3 + 1) w65))))
def p_X12_allocate_10 (Q : Int32 → MS → Prop) : Nat → Int32 → Int32 → MS → Prop
  | 0, _, _, _ => False
  | f + 1, x1, x2, w =>
    (x2 < 0 → Q x1 w) ∧ (¬ x2 < 0 → ∃ f67 : Nat, p_X12_allocate_16 Q (p_X12_allocate_10 Q  f) f67 x1 x2 0 w)
def p_X12_allocate  (w : MS) (Q : Int32 → MS → Prop) : Prop :=
    ∀ w51 : MS, w51 = mSI 0 0 w → ∃ f68 : Nat, p_X12_allocate_10 Q f68 0 9 w51
def p_X12_putAway_51 (Q : Int32 → MS → Prop) (x1 : Int32) (x2 : Int32) (xs1 : Int32) (w : MS) : Prop :=
    p_X12_holds xs1 w (fun x60 w61 => (¬ x60 = 0 → p_X12_slotFor x1 x2 w61 (fun x63 w64 => (x63 = (-1) → Q x63 w64) ∧ (¬ x63 = (-1) → p_X12_makes 0 x1 18 x63 (-1) x2 w64 (fun x66 w67 => Q x63 w67)))) ∧ (x60 = 0 → Q 0 w61))
def p_X12_putAway (x1 : Int32) (x2 : Int32) (w : MS) (Q : Int32 → MS → Prop) : Prop :=
    p_X12_isLot x1 w (fun x51 w52 => (¬ x51 = 0 → p_X12_arePieces x2 w52 (fun x54 w55 => (¬ x54 = 0 → p_X12_freeAt 18 x1 w55 (fun x57 w58 => (x57 < x2 → p_X12_putAway_51 Q x1 x2 3 w58) ∧ (¬ x57 < x2 → (¬ (mI w58 45) = 60 → p_X12_putAway_51 Q x1 x2 0 w58) ∧ ((mI w58 45) = 60 → p_X12_putAway_51 Q x1 x2 3 w58)))) ∧ (x54 = 0 → p_X12_putAway_51 Q x1 x2 2 w55))) ∧ (x51 = 0 → p_X12_putAway_51 Q x1 x2 1 w52))
def p_X12_turns_153 (Q : MS → Prop) (xs1 : Int32) (xs2 : Int32) (xs3 : Int32) (w : MS) : Prop :=
    p_X12_goesTo xs1 xs2 xs3 w (fun w74 => Q w74)
def p_X12_turns_138 (Q : MS → Prop) (x2 : Int32) (xs1 : Int32) (xs2 : Int32) (w : MS) : Prop :=
    vp_in x2 (mL 48) ∧ p_X12_turns_153 Q xs1 xs2 (mA w 48 x2.toNatClampNeg) w
def p_X12_turns_147 (Q : MS → Prop) (x2 : Int32) (xs1 : Int32) (xs2 : Int32) (w : MS) : Prop :=
    vp_in x2 (mL 49) ∧ p_X12_turns_153 Q xs1 xs2 (mA w 49 x2.toNatClampNeg) w
def p_X12_turns_102 (Q : MS → Prop) (x1 : Int32) (x2 : Int32) (x3 : Int32) (w : MS) : Prop :=
    (¬ x3 = 0 → Q w) ∧ (x3 = 0 → vp_in x2 (mL 46) ∧ ((mA w 46 x2.toNatClampNeg) = 2 → p_X12_turns_138 Q x2 x1 x2 w) ∧ (¬ (mA w 46 x2.toNatClampNeg) = 2 → vp_in x2 (mL 46) ∧ (¬ (mA w 46 x2.toNatClampNeg) = 1 → p_X12_turns_147 Q x2 x1 x2 w) ∧ ((mA w 46 x2.toNatClampNeg) = 1 → vp_in x2 (mL 54) ∧ (¬ (mA w 54 x2.toNatClampNeg) = 0 → p_X12_turns_147 Q x2 x1 x2 w) ∧ ((mA w 54 x2.toNatClampNeg) = 0 → p_X12_turns_138 Q x2 x1 x2 w))))
def p_X12_turns_83 (Q : MS → Prop) (x1 : Int32) (x2 : Int32) (x3 : Int32) (w : MS) : Prop :=
    (x3 = 0 → p_X12_turns_102 Q x1 x2 x3 w) ∧ (¬ x3 = 0 → (x2 = (-1) → p_X12_turns_102 Q x1 x2 x3 w) ∧ (¬ x2 = (-1) → vp_in x2 (mL 54) ∧ ∀ w90 : MS, w90 = mSA 54 x2.toNatClampNeg 1 w → Q w90))
def p_X12_turns_58 (Q : MS → Prop) (x1 : Int32) (x2 : Int32) (xs0 : Int32) (w : MS) : Prop :=
    (xs0 = 0 → p_X12_turns_83 Q x1 x2 xs0 w) ∧ (¬ xs0 = 0 → vp_in x1 (mL 55) ∧ ((mA w 55 x1.toNatClampNeg) = (-1) → p_X12_turns_83 Q x1 x2 xs0 w) ∧ (¬ (mA w 55 x1.toNatClampNeg) = (-1) → vp_in x1 (mL 55) ∧ ∀ w98 : MS, w98 = mSA 55 x1.toNatClampNeg (-1) w → Q w98))
def p_X12_turns_57 (Q : MS → Prop) (x1 : Int32) (x2 : Int32) (w : MS) : Prop :=
    p_X12_turns_58 Q x1 x2 0 w
def p_X12_turns_29 (Q : MS → Prop) (x1 : Int32) (xs0 : Int32) (w : MS) : Prop :=
    (xs0 = (-1) → p_X12_turns_58 Q x1 xs0 1 w) ∧ (¬ xs0 = (-1) → vp_in xs0 (mL 46) ∧ (¬ (mA w 46 xs0.toNatClampNeg) = 0 → p_X12_turns_57 Q x1 xs0 w) ∧ ((mA w 46 xs0.toNatClampNeg) = 0 → vp_in xs0 (mL 54) ∧ (¬ (mA w 54 xs0.toNatClampNeg) = 0 → p_X12_turns_57 Q x1 xs0 w) ∧ ((mA w 54 xs0.toNatClampNeg) = 0 → p_X12_turns_58 Q x1 xs0 1 w)))
def p_X12_turns (x1 : Int32) (w : MS) (Q : MS → Prop) : Prop :=
    vp_in x1 (mL 57) ∧ ∀ w54 : MS, w54 = mSA 57 x1.toNatClampNeg (-1) w → vp_in x1 (mL 59) ∧ (¬ (mA w54 59 x1.toNatClampNeg) = 0 → vp_in (60 * x1) (mL 58) ∧ p_X12_turns_29 Q x1 (mA w54 58 (60 * x1).toNatClampNeg) w54) ∧ ((mA w54 59 x1.toNatClampNeg) = 0 → p_X12_turns_29 Q x1 (-1) w54)
def p_X12_ticks_32 (Q : MS → Prop) : Nat → Int32 → Int32 → MS → Prop
  | 0, _, _, _ => False
  | f + 1, x1, x2, w =>
    (3 ≤ x2 → (x1 = (-1) → Q w) ∧ (¬ x1 = (-1) → vp_in x1 (mL 55) ∧ ∀ w58 : MS, w58 = mSA 55 x1.toNatClampNeg (-1) w → ∀ w59 : MS, w59 = mSI 3 ((mI w58 3) + 1) w58 → Q w59)) ∧ (¬ 3 ≤ x2 → p_X12_isInRing x2 w (fun x60 w61 => (x60 = 0 → p_X12_ticks_32 Q f x1 (x2 + 1) w61) ∧ (¬ x60 = 0 → p_X12_ticks_32 Q f x2 (x2 + 1) w61)))
def p_X12_ticks_12 (Q : MS → Prop) : Nat → Int32 → MS → Prop
  | 0, _, _ => False
  | f + 1, x1, w =>
    (3 ≤ x1 → ∃ f63 : Nat, p_X12_ticks_32 Q f63 (-1) 0 w) ∧ (¬ 3 ≤ x1 → p_X12_turns x1 w (fun w65 => p_X12_ticks_12 Q f (x1 + 1) w65))
def p_X12_ticks  (w : MS) (Q : MS → Prop) : Prop :=
    ∀ w51 : MS, w51 = mSI 1 ((mI w 1) + 1) w → ∃ f66 : Nat, p_X12_ticks_12 Q f66 0 w51
def p_X12_pass_26 (Q : Int32 → MS → Prop) : Nat → Int32 → Int32 → MS → Prop
  | 0, _, _, _ => False
  | f + 1, x1, x2, w =>
    (x1 ≤ x2 → Q (mI w 1) w) ∧ (¬ x1 ≤ x2 → p_X12_ticks  w (fun w59 => p_X12_pass_26 Q f x1 (x2 + 1) w59))
def p_X12_pass_16 (Q : Int32 → MS → Prop) (x1 : Int32) (xs1 : Int32) (w : MS) : Prop :=
    p_X12_holds xs1 w (fun x54 w55 => (¬ x54 = 0 → ∃ f60 : Nat, p_X12_pass_26 Q f60 x1 0 w55) ∧ (x54 = 0 → Q 0 w55))
def p_X12_pass (x1 : Int32) (w : MS) (Q : Int32 → MS → Prop) : Prop :=
    p_X12_isIn x1 1 50 w (fun x51 w52 => (x51 = 0 → p_X12_pass_16 Q x1 1 w52) ∧ (¬ x51 = 0 → p_X12_pass_16 Q x1 0 w52))
set_option maxRecDepth 100000 in
set_option maxHeartbeats 1000000 in
theorem q_X12_bill {a0 : Nat} {arr : Nat → Nat} {σ : St}  (hR : RF a0 arr σ) {P : Int32 → MS → Prop} (hp : p_X12_bill  (absM a0 arr σ) P) {Q : Int32 → St → Prop} (hq : ∀ (r : Int32) (s : St), RF a0 arr s → P r (absM a0 arr s) → Q r s) : w_X12_bill a0 σ Q := by
  unfold p_X12_bill at hp
  unfold w_X12_bill
  intro s51 hs51
  have h2 := abs_setI (arr := arr) 0 (by first | decide | assumption) hs51
  replace hR := hR.setI hs51
  replace hp := hp _ h2
  clear h2 hs51
  exact hq _ _ hR hp
set_option maxRecDepth 100000 in
set_option maxHeartbeats 1000000 in
theorem q_X12_books {a0 : Nat} {arr : Nat → Nat} {σ : St} {x1 : Int32} {x2 : Int32} {x3 : Int32} (hR : RF a0 arr σ) {P : MS → Prop} (hp : p_X12_books x1 x2 x3 (absM a0 arr σ) P) {Q : St → Prop} (hq : ∀ (s : St), RF a0 arr s → P (absM a0 arr s) → Q s) : w_X12_books a0 x1 x2 x3 σ Q := by
  unfold p_X12_books at hp
  unfold w_X12_books
  intro o51 ho51
  rw [hR.ref 19 (by first | decide | assumption)] at ho51
  subst ho51
  intro x52 hx52
  replace hp := hp x52 hx52
  refine ⟨arr 19, rfl, ?_⟩
  refine ⟨by rw [hR.len 19 (by first | decide | assumption)]; exact hp.1, ?_⟩
  replace hp := hp.2
  refine ⟨by rw [hR.len 19 (by first | decide | assumption)]; exact hp.1, ?_⟩
  replace hp := hp.2
  intro s56 hs56
  have h2 := abs_setA hR 19 (by first | decide | assumption) hs56
  replace hR := hR.setA hs56
  replace hp := hp _ h2
  clear h2 hs56
  refine ⟨fun c => ?_, fun c => ?_⟩
  · replace hp := hp.1 c
    exact hq _ hR hp
  · replace hp := hp.2 c
    refine ⟨fun c => ?_, fun c => ?_⟩
    · replace hp := hp.1 c
      exact hq _ hR hp
    · replace hp := hp.2 c
      intro o59 ho59
      rw [hR.ref 21 (by first | decide | assumption)] at ho59
      subst ho59
      refine ⟨arr 21, rfl, ?_⟩
      refine ⟨by rw [hR.len 21 (by first | decide | assumption)]; exact hp.1, ?_⟩
      replace hp := hp.2
      intro s62 hs62
      have h2 := abs_setA hR 21 (by first | decide | assumption) hs62
      replace hR := hR.setA hs62
      replace hp := hp _ h2
      clear h2 hs62
      exact hq _ hR hp
set_option maxRecDepth 100000 in
set_option maxHeartbeats 1000000 in
theorem q_X12_cameOf_36 {a0 : Nat} {arr : Nat → Nat} {P : Int32 → MS → Prop} {Q : Int32 → St → Prop} (hq : ∀ (r : Int32) (s : St), RF a0 arr s → P r (absM a0 arr s) → Q r s) {K5 : Nat → Int32 → Int32 → Int32 → Int32 → St → Prop} {LK5 : Int32 → Int32 → Int32 → Int32 → MS → Prop} (hK5 : ∀ (y1 : Int32) (y2 : Int32) (y3 : Int32) (y4 : Int32) (y5 : St), RF a0 arr y5 → LK5 y1 y2 y3 y4 (absM a0 arr y5) → K5 a0 y1 y2 y3 y4 y5) : ∀ (x1 : Int32) (x2 : Int32) (x4 : Int32) (xs0 : Int32) (xs1 : Int32) (σ : St), RF a0 arr σ → p_X12_cameOf_36 P LK5 x1 x2 x4 xs0 xs1 (absM a0 arr σ) → w_X12_cameOf_36 Q K5 a0 x1 x2 x4 xs0 xs1 σ := by
  intro x1 x2 x4 xs0 xs1 σ hR hp
  unfold p_X12_cameOf_36 at hp
  unfold w_X12_cameOf_36
  refine ⟨fun c => ?_, fun c => ?_⟩
  · replace hp := hp.1 c
    intro x60 hx60
    replace hp := hp x60 hx60
    exact hK5 _ _ _ _ _ hR hp
  · replace hp := hp.2 c
    intro o61 ho61
    rw [hR.ref 26 (by first | decide | assumption)] at ho61
    subst ho61
    refine ⟨arr 26, rfl, ?_⟩
    refine ⟨by rw [hR.len 26 (by first | decide | assumption)]; exact hp.1, ?_⟩
    replace hp := hp.2
    intro x64 hx64
    replace hp := hp x64 hx64
    exact hK5 _ _ _ _ _ hR hp
set_option maxRecDepth 100000 in
set_option maxHeartbeats 1000000 in
theorem q_X12_cameOf_5 {a0 : Nat} {arr : Nat → Nat} {P : Int32 → MS → Prop} {Q : Int32 → St → Prop} (hq : ∀ (r : Int32) (s : St), RF a0 arr s → P r (absM a0 arr s) → Q r s) : ∀ (f : Nat) (x1 : Int32) (x2 : Int32) (x3 : Int32) (x4 : Int32) (σ : St), RF a0 arr σ → p_X12_cameOf_5 P  f x1 x2 x3 x4 (absM a0 arr σ) → w_X12_cameOf_5 Q  f a0 x1 x2 x3 x4 σ := by
  intro f
  induction f with
  | zero => intro x1 x2 x3 x4 σ hR hp; exact hp.elim
  | succ f ih =>
    intro x1 x2 x3 x4 σ hR hp
    unfold p_X12_cameOf_5 at hp
    unfold w_X12_cameOf_5
    refine ⟨fun c => ?_, fun c => ?_⟩
    · replace hp := hp.1 c
      exact hq _ _ hR hp
    · replace hp := hp.2 c
      intro o52 ho52
      rw [hR.ref 16 (by first | decide | assumption)] at ho52
      subst ho52
      refine ⟨arr 16, rfl, ?_⟩
      refine ⟨by rw [hR.len 16 (by first | decide | assumption)]; exact hp.1, ?_⟩
      replace hp := hp.2
      intro o55 ho55
      rw [hR.ref 23 (by first | decide | assumption)] at ho55
      subst ho55
      refine ⟨arr 23, rfl, ?_⟩
      refine ⟨by rw [hR.len 23 (by first | decide | assumption)]; exact hp.1, ?_⟩
      replace hp := hp.2
      refine ⟨fun c => ?_, fun c => ?_⟩
      · replace hp := hp.1 c
        exact q_X12_cameOf_36 hq ih _ _ _ _ _ _ hR hp
      · replace hp := hp.2 c
        exact q_X12_cameOf_36 hq ih _ _ _ _ _ _ hR hp
set_option maxRecDepth 100000 in
set_option maxHeartbeats 1000000 in
theorem q_X12_cameOf {a0 : Nat} {arr : Nat → Nat} {σ : St} {x1 : Int32} {x2 : Int32} (hR : RF a0 arr σ) {P : Int32 → MS → Prop} (hp : p_X12_cameOf x1 x2 (absM a0 arr σ) P) {Q : Int32 → St → Prop} (hq : ∀ (r : Int32) (s : St), RF a0 arr s → P r (absM a0 arr s) → Q r s) : w_X12_cameOf a0 x1 x2 σ Q := by
  unfold p_X12_cameOf at hp
  unfold w_X12_cameOf
  obtain ⟨f65, hp⟩ := hp
  refine ⟨f65, ?_⟩
  exact q_X12_cameOf_5 hq f65 _ _ _ _ _ hR hp
set_option maxRecDepth 100000 in
set_option maxHeartbeats 1000000 in
theorem q_X12_ends_72 {a0 : Nat} {arr : Nat → Nat} {P : MS → Prop} {Q : St → Prop} (hq : ∀ (s : St), RF a0 arr s → P (absM a0 arr s) → Q s) : ∀ (f : Nat) (x1 : Int32) (x3 : Int32) (x4 : Int32) (x5 : Int32) (σ : St), RF a0 arr σ → p_X12_ends_72 P  f x1 x3 x4 x5 (absM a0 arr σ) → w_X12_ends_72 Q  f a0 x1 x3 x4 x5 σ := by
  intro f
  induction f with
  | zero => intro x1 x3 x4 x5 σ hR hp; exact hp.elim
  | succ f ih =>
    intro x1 x3 x4 x5 σ hR hp
    unfold p_X12_ends_72 at hp
    unfold w_X12_ends_72
    intro o61 ho61
    rw [hR.ref 59 (by first | decide | assumption)] at ho61
    subst ho61
    refine ⟨arr 59, rfl, ?_⟩
    refine ⟨by rw [hR.len 59 (by first | decide | assumption)]; exact hp.1, ?_⟩
    replace hp := hp.2
    refine ⟨fun c => ?_, fun c => ?_⟩
    · replace hp := hp.1 c
      intro o65 ho65
      rw [hR.ref 59 (by first | decide | assumption)] at ho65
      subst ho65
      refine ⟨arr 59, rfl, ?_⟩
      refine ⟨by rw [hR.len 59 (by first | decide | assumption)]; exact hp.1, ?_⟩
      replace hp := hp.2
      intro s68 hs68
      have h2 := abs_setA hR 59 (by first | decide | assumption) hs68
      replace hR := hR.setA hs68
      replace hp := hp _ h2
      clear h2 hs68
      exact hq _ hR hp
    · replace hp := hp.2 c
      intro o69 ho69
      rw [hR.ref 58 (by first | decide | assumption)] at ho69
      subst ho69
      refine ⟨arr 58, rfl, ?_⟩
      refine ⟨by rw [hR.len 58 (by first | decide | assumption)]; exact hp.1, ?_⟩
      replace hp := hp.2
      intro x72 hx72
      replace hp := hp x72 hx72
      refine ⟨fun c => ?_, fun c => ?_⟩
      · replace hp := hp.1 c
        exact ih _ _ _ _ _ hR hp
      · replace hp := hp.2 c
        intro o74 ho74
        rw [hR.ref 58 (by first | decide | assumption)] at ho74
        subst ho74
        refine ⟨arr 58, rfl, ?_⟩
        refine ⟨by rw [hR.len 58 (by first | decide | assumption)]; exact hp.1, ?_⟩
        replace hp := hp.2
        intro s77 hs77
        have h2 := abs_setA hR 58 (by first | decide | assumption) hs77
        replace hR := hR.setA hs77
        replace hp := hp _ h2
        clear h2 hs77
        exact ih _ _ _ _ _ hR hp
set_option maxRecDepth 100000 in
set_option maxHeartbeats 1000000 in
theorem q_X12_ends_54 {a0 : Nat} {arr : Nat → Nat} {P : MS → Prop} {Q : St → Prop} (hq : ∀ (s : St), RF a0 arr s → P (absM a0 arr s) → Q s) {K17 : Nat → Int32 → Int32 → Int32 → St → Prop} {LK17 : Int32 → Int32 → Int32 → MS → Prop} (hK17 : ∀ (y1 : Int32) (y2 : Int32) (y3 : Int32) (y4 : St), RF a0 arr y4 → LK17 y1 y2 y3 (absM a0 arr y4) → K17 a0 y1 y2 y3 y4) : ∀ (x1 : Int32) (x3 : Int32) (x4 : Int32) (os0 : Nat) (xs1 : Int32) (xs2 : Int32) (σ : St), RF a0 arr σ → p_X12_ends_54 P LK17 x1 x3 x4 os0 xs1 xs2 (absM a0 arr σ) → w_X12_ends_54 Q K17 a0 x1 x3 x4 (some (arr os0)) xs1 xs2 σ := by
  intro x1 x3 x4 os0 xs1 xs2 σ hR hp
  unfold p_X12_ends_54 at hp
  unfold w_X12_ends_54
  obtain ⟨hAos0, hp⟩ := hp
  refine ⟨arr os0, rfl, ?_⟩
  refine ⟨by rw [hR.len os0 (by first | decide | assumption)]; exact hp.1, ?_⟩
  replace hp := hp.2
  intro s89 hs89
  have h2 := abs_setA hR os0 (by first | decide | assumption) hs89
  replace hR := hR.setA hs89
  replace hp := hp _ h2
  clear h2 hs89
  exact hK17 _ _ _ _ hR hp
set_option maxRecDepth 100000 in
set_option maxHeartbeats 1000000 in
theorem q_X12_ends_17 {a0 : Nat} {arr : Nat → Nat} {P : MS → Prop} {Q : St → Prop} (hq : ∀ (s : St), RF a0 arr s → P (absM a0 arr s) → Q s) : ∀ (f : Nat) (x1 : Int32) (x3 : Int32) (x4 : Int32) (σ : St), RF a0 arr σ → p_X12_ends_17 P  f x1 x3 x4 (absM a0 arr σ) → w_X12_ends_17 Q  f a0 x1 x3 x4 σ := by
  intro f
  induction f with
  | zero => intro x1 x3 x4 σ hR hp; exact hp.elim
  | succ f ih =>
    intro x1 x3 x4 σ hR hp
    unfold p_X12_ends_17 at hp
    unfold w_X12_ends_17
    refine ⟨fun c => ?_, fun c => ?_⟩
    · replace hp := hp.1 c
      refine ⟨fun c => ?_, fun c => ?_⟩
      · replace hp := hp.1 c
        exact hq _ hR hp
      · replace hp := hp.2 c
        obtain ⟨f78, hp⟩ := hp
        refine ⟨f78, ?_⟩
        exact q_X12_ends_72 hq f78 _ _ _ _ _ hR hp
    · replace hp := hp.2 c
      intro o79 ho79
      rw [hR.ref 43 (by first | decide | assumption)] at ho79
      subst ho79
      intro o80 ho80
      rw [hR.ref 44 (by first | decide | assumption)] at ho80
      subst ho80
      refine ⟨arr 44, rfl, ?_⟩
      refine ⟨by rw [hR.len 44 (by first | decide | assumption)]; exact hp.1, ?_⟩
      replace hp := hp.2
      refine ⟨fun c => ?_, fun c => ?_⟩
      · replace hp := hp.1 c
        intro o84 ho84
        rw [hR.ref 43 (by first | decide | assumption)] at ho84
        subst ho84
        refine ⟨arr 43, rfl, ?_⟩
        refine ⟨by rw [hR.len 43 (by first | decide | assumption)]; exact hp.1, ?_⟩
        replace hp := hp.2
        exact q_X12_ends_54 hq ih _ _ _ _ _ _ _ hR hp
      · replace hp := hp.2 c
        exact q_X12_ends_54 hq ih _ _ _ _ _ _ _ hR hp
set_option maxRecDepth 100000 in
set_option maxHeartbeats 1000000 in
theorem q_X12_ends {a0 : Nat} {arr : Nat → Nat} {σ : St} {x1 : Int32} {x2 : Int32} (hR : RF a0 arr σ) {P : MS → Prop} (hp : p_X12_ends x1 x2 (absM a0 arr σ) P) {Q : St → Prop} (hq : ∀ (s : St), RF a0 arr s → P (absM a0 arr s) → Q s) : w_X12_ends a0 x1 x2 σ Q := by
  unfold p_X12_ends at hp
  unfold w_X12_ends
  intro o51 ho51
  rw [hR.ref 53 (by first | decide | assumption)] at ho51
  subst ho51
  refine ⟨arr 53, rfl, ?_⟩
  refine ⟨by rw [hR.len 53 (by first | decide | assumption)]; exact hp.1, ?_⟩
  replace hp := hp.2
  intro x54 hx54
  replace hp := hp x54 hx54
  intro o55 ho55
  rw [hR.ref 52 (by first | decide | assumption)] at ho55
  subst ho55
  refine ⟨arr 52, rfl, ?_⟩
  refine ⟨by rw [hR.len 52 (by first | decide | assumption)]; exact hp.1, ?_⟩
  replace hp := hp.2
  intro s58 hs58
  have h2 := abs_setA hR 52 (by first | decide | assumption) hs58
  replace hR := hR.setA hs58
  replace hp := hp _ h2
  clear h2 hs58
  obtain ⟨f90, hp⟩ := hp
  refine ⟨f90, ?_⟩
  exact q_X12_ends_17 hq f90 _ _ _ _ hR hp
set_option maxRecDepth 100000 in
set_option maxHeartbeats 1000000 in
theorem q_X12_fitsInto_78 {a0 : Nat} {arr : Nat → Nat} {P : Int32 → MS → Prop} {Q : Int32 → St → Prop} (hq : ∀ (r : Int32) (s : St), RF a0 arr s → P r (absM a0 arr s) → Q r s) {K45 : Nat → Int32 → Int32 → Int32 → Int32 → St → Prop} {LK45 : Int32 → Int32 → Int32 → Int32 → MS → Prop} (hK45 : ∀ (y1 : Int32) (y2 : Int32) (y3 : Int32) (y4 : Int32) (y5 : St), RF a0 arr y5 → LK45 y1 y2 y3 y4 (absM a0 arr y5) → K45 a0 y1 y2 y3 y4 y5) : ∀ (x1 : Int32) (x2 : Int32) (x3 : Int32) (x4 : Int32) (xs0 : Int32) (σ : St), RF a0 arr σ → p_X12_fitsInto_78 P LK45 x1 x2 x3 x4 xs0 (absM a0 arr σ) → w_X12_fitsInto_78 Q K45 a0 x1 x2 x3 x4 xs0 σ := by
  intro x1 x2 x3 x4 xs0 σ hR hp
  unfold p_X12_fitsInto_78 at hp
  unfold w_X12_fitsInto_78
  refine ⟨fun c => ?_, fun c => ?_⟩
  · replace hp := hp.1 c
    exact hK45 _ _ _ _ _ hR hp
  · replace hp := hp.2 c
    refine ⟨fun c => ?_, fun c => ?_⟩
    · replace hp := hp.1 c
      exact hK45 _ _ _ _ _ hR hp
    · replace hp := hp.2 c
      intro o65 ho65
      rw [hR.ref 14 (by first | decide | assumption)] at ho65
      subst ho65
      intro o66 ho66
      rw [hR.ref 12 (by first | decide | assumption)] at ho66
      subst ho66
      refine ⟨arr 12, rfl, ?_⟩
      refine ⟨by rw [hR.len 12 (by first | decide | assumption)]; exact hp.1, ?_⟩
      replace hp := hp.2
      intro o69 ho69
      rw [hR.ref 12 (by first | decide | assumption)] at ho69
      subst ho69
      refine ⟨arr 12, rfl, ?_⟩
      refine ⟨by rw [hR.len 12 (by first | decide | assumption)]; exact hp.1, ?_⟩
      replace hp := hp.2
      refine ⟨arr 14, rfl, ?_⟩
      refine ⟨by rw [hR.len 14 (by first | decide | assumption)]; exact hp.1, ?_⟩
      replace hp := hp.2
      refine ⟨fun c => ?_, fun c => ?_⟩
      · replace hp := hp.1 c
        exact hK45 _ _ _ _ _ hR hp
      · replace hp := hp.2 c
        exact hK45 _ _ _ _ _ hR hp
set_option maxRecDepth 100000 in
set_option maxHeartbeats 1000000 in
theorem q_X12_fitsInto_77 {a0 : Nat} {arr : Nat → Nat} {P : Int32 → MS → Prop} {Q : Int32 → St → Prop} (hq : ∀ (r : Int32) (s : St), RF a0 arr s → P r (absM a0 arr s) → Q r s) {K45 : Nat → Int32 → Int32 → Int32 → Int32 → St → Prop} {LK45 : Int32 → Int32 → Int32 → Int32 → MS → Prop} (hK45 : ∀ (y1 : Int32) (y2 : Int32) (y3 : Int32) (y4 : Int32) (y5 : St), RF a0 arr y5 → LK45 y1 y2 y3 y4 (absM a0 arr y5) → K45 a0 y1 y2 y3 y4 y5) : ∀ (x1 : Int32) (x2 : Int32) (x3 : Int32) (x4 : Int32) (σ : St), RF a0 arr σ → p_X12_fitsInto_77 P LK45 x1 x2 x3 x4 (absM a0 arr σ) → w_X12_fitsInto_77 Q K45 a0 x1 x2 x3 x4 σ := by
  intro x1 x2 x3 x4 σ hR hp
  unfold p_X12_fitsInto_77 at hp
  unfold w_X12_fitsInto_77
  exact q_X12_fitsInto_78 hq hK45 _ _ _ _ _ _ hR hp
set_option maxRecDepth 100000 in
set_option maxHeartbeats 1000000 in
theorem q_X12_fitsInto_45 {a0 : Nat} {arr : Nat → Nat} {P : Int32 → MS → Prop} {Q : Int32 → St → Prop} (hq : ∀ (r : Int32) (s : St), RF a0 arr s → P r (absM a0 arr s) → Q r s) : ∀ (f : Nat) (x1 : Int32) (x2 : Int32) (x3 : Int32) (x4 : Int32) (σ : St), RF a0 arr σ → p_X12_fitsInto_45 P  f x1 x2 x3 x4 (absM a0 arr σ) → w_X12_fitsInto_45 Q  f a0 x1 x2 x3 x4 σ := by
  intro f
  induction f with
  | zero => intro x1 x2 x3 x4 σ hR hp; exact hp.elim
  | succ f ih =>
    intro x1 x2 x3 x4 σ hR hp
    unfold p_X12_fitsInto_45 at hp
    unfold w_X12_fitsInto_45
    refine ⟨fun c => ?_, fun c => ?_⟩
    · replace hp := hp.1 c
      refine ⟨hp.1, ?_⟩
      replace hp := hp.2
      exact hq _ _ hR hp
    · replace hp := hp.2 c
      intro o59 ho59
      rw [hR.ref 64 (by first | decide | assumption)] at ho59
      subst ho59
      refine ⟨arr 64, rfl, ?_⟩
      refine ⟨by rw [hR.len 64 (by first | decide | assumption)]; exact hp.1, ?_⟩
      replace hp := hp.2
      refine ⟨fun c => ?_, fun c => ?_⟩
      · replace hp := hp.1 c
        exact q_X12_fitsInto_77 hq ih _ _ _ _ _ hR hp
      · replace hp := hp.2 c
        refine ⟨fun c => ?_, fun c => ?_⟩
        · replace hp := hp.1 c
          exact q_X12_fitsInto_77 hq ih _ _ _ _ _ hR hp
        · replace hp := hp.2 c
          exact q_X12_fitsInto_78 hq ih _ _ _ _ _ _ hR hp
set_option maxRecDepth 100000 in
set_option maxHeartbeats 1000000 in
theorem q_X12_fitsInto {a0 : Nat} {arr : Nat → Nat} {σ : St} {x1 : Int32} {x2 : Int32} (hR : RF a0 arr σ) {P : Int32 → MS → Prop} (hp : p_X12_fitsInto x1 x2 (absM a0 arr σ) P) {Q : Int32 → St → Prop} (hq : ∀ (r : Int32) (s : St), RF a0 arr s → P r (absM a0 arr s) → Q r s) : w_X12_fitsInto a0 x1 x2 σ Q := by
  unfold p_X12_fitsInto at hp
  unfold w_X12_fitsInto
  intro o51 ho51
  rw [hR.ref 61 (by first | decide | assumption)] at ho51
  subst ho51
  refine ⟨arr 61, rfl, ?_⟩
  refine ⟨by rw [hR.len 61 (by first | decide | assumption)]; exact hp.1, ?_⟩
  replace hp := hp.2
  intro o54 ho54
  rw [hR.ref 10 (by first | decide | assumption)] at ho54
  subst ho54
  refine ⟨arr 10, rfl, ?_⟩
  refine ⟨by rw [hR.len 10 (by first | decide | assumption)]; exact hp.1, ?_⟩
  replace hp := hp.2
  refine ⟨fun c => ?_, fun c => ?_⟩
  · replace hp := hp.1 c
    obtain ⟨f76, hp⟩ := hp
    refine ⟨f76, ?_⟩
    exact q_X12_fitsInto_45 hq f76 _ _ _ _ _ hR hp
  · replace hp := hp.2 c
    intro o77 ho77
    rw [hR.ref 62 (by first | decide | assumption)] at ho77
    subst ho77
    refine ⟨arr 62, rfl, ?_⟩
    refine ⟨by rw [hR.len 62 (by first | decide | assumption)]; exact hp.1, ?_⟩
    replace hp := hp.2
    intro o80 ho80
    rw [hR.ref 11 (by first | decide | assumption)] at ho80
    subst ho80
    refine ⟨arr 11, rfl, ?_⟩
    refine ⟨by rw [hR.len 11 (by first | decide | assumption)]; exact hp.1, ?_⟩
    replace hp := hp.2
    refine ⟨fun c => ?_, fun c => ?_⟩
    · replace hp := hp.1 c
      obtain ⟨f84, hp⟩ := hp
      refine ⟨f84, ?_⟩
      exact q_X12_fitsInto_45 hq f84 _ _ _ _ _ hR hp
    · replace hp := hp.2 c
      obtain ⟨f85, hp⟩ := hp
      refine ⟨f85, ?_⟩
      exact q_X12_fitsInto_45 hq f85 _ _ _ _ _ hR hp
set_option maxRecDepth 100000 in
set_option maxHeartbeats 1000000 in
theorem q_X12_gives {a0 : Nat} {arr : Nat → Nat} {σ : St} {x1 : Int32} {x2 : Int32} (hR : RF a0 arr σ) {P : MS → Prop} (hp : p_X12_gives x1 x2 (absM a0 arr σ) P) {Q : St → Prop} (hq : ∀ (s : St), RF a0 arr s → P (absM a0 arr s) → Q s) : w_X12_gives a0 x1 x2 σ Q := by
  unfold p_X12_gives at hp
  unfold w_X12_gives
  intro o51 ho51
  rw [hR.ref 58 (by first | decide | assumption)] at ho51
  subst ho51
  intro o52 ho52
  rw [hR.ref 59 (by first | decide | assumption)] at ho52
  subst ho52
  refine ⟨arr 59, rfl, ?_⟩
  refine ⟨by rw [hR.len 59 (by first | decide | assumption)]; exact hp.1, ?_⟩
  replace hp := hp.2
  refine ⟨arr 58, rfl, ?_⟩
  refine ⟨by rw [hR.len 58 (by first | decide | assumption)]; exact hp.1, ?_⟩
  replace hp := hp.2
  intro s57 hs57
  have h2 := abs_setA hR 58 (by first | decide | assumption) hs57
  replace hR := hR.setA hs57
  replace hp := hp _ h2
  clear h2 hs57
  intro o58 ho58
  rw [hR.ref 59 (by first | decide | assumption)] at ho58
  subst ho58
  refine ⟨arr 59, rfl, ?_⟩
  refine ⟨by rw [hR.len 59 (by first | decide | assumption)]; exact hp.1, ?_⟩
  replace hp := hp.2
  refine ⟨by rw [hR.len 59 (by first | decide | assumption)]; exact hp.1, ?_⟩
  replace hp := hp.2
  intro s62 hs62
  have h2 := abs_setA hR 59 (by first | decide | assumption) hs62
  replace hR := hR.setA hs62
  replace hp := hp _ h2
  clear h2 hs62
  intro o63 ho63
  rw [hR.ref 52 (by first | decide | assumption)] at ho63
  subst ho63
  refine ⟨arr 52, rfl, ?_⟩
  refine ⟨by rw [hR.len 52 (by first | decide | assumption)]; exact hp.1, ?_⟩
  replace hp := hp.2
  intro s66 hs66
  have h2 := abs_setA hR 52 (by first | decide | assumption) hs66
  replace hR := hR.setA hs66
  replace hp := hp _ h2
  clear h2 hs66
  intro o67 ho67
  rw [hR.ref 53 (by first | decide | assumption)] at ho67
  subst ho67
  refine ⟨arr 53, rfl, ?_⟩
  refine ⟨by rw [hR.len 53 (by first | decide | assumption)]; exact hp.1, ?_⟩
  replace hp := hp.2
  intro s70 hs70
  have h2 := abs_setA hR 53 (by first | decide | assumption) hs70
  replace hR := hR.setA hs70
  replace hp := hp _ h2
  clear h2 hs70
  exact hq _ hR hp
set_option maxRecDepth 100000 in
set_option maxHeartbeats 1000000 in
theorem q_X12_holds {a0 : Nat} {arr : Nat → Nat} {σ : St} {x1 : Int32} (hR : RF a0 arr σ) {P : Int32 → MS → Prop} (hp : p_X12_holds x1 (absM a0 arr σ) P) {Q : Int32 → St → Prop} (hq : ∀ (r : Int32) (s : St), RF a0 arr s → P r (absM a0 arr s) → Q r s) : w_X12_holds a0 x1 σ Q := by
  unfold p_X12_holds at hp
  unfold w_X12_holds
  intro s51 hs51
  have h2 := abs_setI (arr := arr) 0 (by first | decide | assumption) hs51
  replace hR := hR.setI hs51
  replace hp := hp _ h2
  clear h2 hs51
  refine ⟨fun c => ?_, fun c => ?_⟩
  · replace hp := hp.1 c
    exact hq _ _ hR hp
  · replace hp := hp.2 c
    exact hq _ _ hR hp
set_option maxRecDepth 100000 in
set_option maxHeartbeats 1000000 in
theorem q_X12_isFor {a0 : Nat} {arr : Nat → Nat} {σ : St} {x1 : Int32} {x2 : Int32} (hR : RF a0 arr σ) {P : Int32 → MS → Prop} (hp : p_X12_isFor x1 x2 (absM a0 arr σ) P) {Q : Int32 → St → Prop} (hq : ∀ (r : Int32) (s : St), RF a0 arr s → P r (absM a0 arr s) → Q r s) : w_X12_isFor a0 x1 x2 σ Q := by
  unfold p_X12_isFor at hp
  unfold w_X12_isFor
  intro o51 ho51
  rw [hR.ref 44 (by first | decide | assumption)] at ho51
  subst ho51
  refine ⟨arr 44, rfl, ?_⟩
  refine ⟨by rw [hR.len 44 (by first | decide | assumption)]; exact hp.1, ?_⟩
  replace hp := hp.2
  refine ⟨fun c => ?_, fun c => ?_⟩
  · replace hp := hp.1 c
    exact hq _ _ hR hp
  · replace hp := hp.2 c
    intro o55 ho55
    rw [hR.ref 40 (by first | decide | assumption)] at ho55
    subst ho55
    refine ⟨arr 40, rfl, ?_⟩
    refine ⟨by rw [hR.len 40 (by first | decide | assumption)]; exact hp.1, ?_⟩
    replace hp := hp.2
    refine ⟨fun c => ?_, fun c => ?_⟩
    · replace hp := hp.1 c
      exact hq _ _ hR hp
    · replace hp := hp.2 c
      exact hq _ _ hR hp
set_option maxRecDepth 100000 in
set_option maxHeartbeats 1000000 in
theorem q_X12_isHeldByOther_5 {a0 : Nat} {arr : Nat → Nat} {P : Int32 → MS → Prop} {Q : Int32 → St → Prop} (hq : ∀ (r : Int32) (s : St), RF a0 arr s → P r (absM a0 arr s) → Q r s) : ∀ (f : Nat) (x1 : Int32) (x2 : Int32) (x3 : Int32) (x4 : Int32) (σ : St), RF a0 arr σ → p_X12_isHeldByOther_5 P  f x1 x2 x3 x4 (absM a0 arr σ) → w_X12_isHeldByOther_5 Q  f a0 x1 x2 x3 x4 σ := by
  intro f
  induction f with
  | zero => intro x1 x2 x3 x4 σ hR hp; exact hp.elim
  | succ f ih =>
    intro x1 x2 x3 x4 σ hR hp
    unfold p_X12_isHeldByOther_5 at hp
    unfold w_X12_isHeldByOther_5
    refine ⟨fun c => ?_, fun c => ?_⟩
    · replace hp := hp.1 c
      refine ⟨hp.1, ?_⟩
      replace hp := hp.2
      exact hq _ _ hR hp
    · replace hp := hp.2 c
      refine ⟨fun c => ?_, fun c => ?_⟩
      · replace hp := hp.1 c
        exact ih _ _ _ _ _ hR hp
      · replace hp := hp.2 c
        refine ⟨fun c => ?_, fun c => ?_⟩
        · replace hp := hp.1 c
          exact ih _ _ _ _ _ hR hp
        · replace hp := hp.2 c
          intro o54 ho54
          rw [hR.ref 55 (by first | decide | assumption)] at ho54
          subst ho54
          refine ⟨arr 55, rfl, ?_⟩
          refine ⟨by rw [hR.len 55 (by first | decide | assumption)]; exact hp.1, ?_⟩
          replace hp := hp.2
          refine ⟨fun c => ?_, fun c => ?_⟩
          · replace hp := hp.1 c
            exact ih _ _ _ _ _ hR hp
          · replace hp := hp.2 c
            exact ih _ _ _ _ _ hR hp
set_option maxRecDepth 100000 in
set_option maxHeartbeats 1000000 in
theorem q_X12_isHeldByOther {a0 : Nat} {arr : Nat → Nat} {σ : St} {x1 : Int32} {x2 : Int32} (hR : RF a0 arr σ) {P : Int32 → MS → Prop} (hp : p_X12_isHeldByOther x1 x2 (absM a0 arr σ) P) {Q : Int32 → St → Prop} (hq : ∀ (r : Int32) (s : St), RF a0 arr s → P r (absM a0 arr s) → Q r s) : w_X12_isHeldByOther a0 x1 x2 σ Q := by
  unfold p_X12_isHeldByOther at hp
  unfold w_X12_isHeldByOther
  obtain ⟨f58, hp⟩ := hp
  refine ⟨f58, ?_⟩
  exact q_X12_isHeldByOther_5 hq f58 _ _ _ _ _ hR hp
set_option maxRecDepth 100000 in
set_option maxHeartbeats 1000000 in
theorem q_X12_isIn {a0 : Nat} {arr : Nat → Nat} {σ : St} {x0 : Int32} {x1 : Int32} {x2 : Int32} (hR : RF a0 arr σ) {P : Int32 → MS → Prop} (hp : p_X12_isIn x0 x1 x2 (absM a0 arr σ) P) {Q : Int32 → St → Prop} (hq : ∀ (r : Int32) (s : St), RF a0 arr s → P r (absM a0 arr s) → Q r s) : w_X12_isIn x0 x1 x2 σ Q := by
  unfold p_X12_isIn at hp
  unfold w_X12_isIn
  refine ⟨fun c => ?_, fun c => ?_⟩
  · replace hp := hp.1 c
    exact hq _ _ hR hp
  · replace hp := hp.2 c
    refine ⟨fun c => ?_, fun c => ?_⟩
    · replace hp := hp.1 c
      exact hq _ _ hR hp
    · replace hp := hp.2 c
      exact hq _ _ hR hp
set_option maxRecDepth 100000 in
set_option maxHeartbeats 1000000 in
theorem q_X12_isOn {a0 : Nat} {arr : Nat → Nat} {σ : St} {x1 : Int32} (hR : RF a0 arr σ) {P : Int32 → MS → Prop} (hp : p_X12_isOn x1 (absM a0 arr σ) P) {Q : Int32 → St → Prop} (hq : ∀ (r : Int32) (s : St), RF a0 arr s → P r (absM a0 arr s) → Q r s) : w_X12_isOn a0 x1 σ Q := by
  unfold p_X12_isOn at hp
  unfold w_X12_isOn
  intro o51 ho51
  rw [hR.ref 52 (by first | decide | assumption)] at ho51
  subst ho51
  refine ⟨arr 52, rfl, ?_⟩
  refine ⟨by rw [hR.len 52 (by first | decide | assumption)]; exact hp.1, ?_⟩
  replace hp := hp.2
  refine ⟨fun c => ?_, fun c => ?_⟩
  · replace hp := hp.1 c
    exact hq _ _ hR hp
  · replace hp := hp.2 c
    intro o55 ho55
    rw [hR.ref 52 (by first | decide | assumption)] at ho55
    subst ho55
    refine ⟨arr 52, rfl, ?_⟩
    refine ⟨by rw [hR.len 52 (by first | decide | assumption)]; exact hp.1, ?_⟩
    replace hp := hp.2
    refine ⟨fun c => ?_, fun c => ?_⟩
    · replace hp := hp.1 c
      exact hq _ _ hR hp
    · replace hp := hp.2 c
      exact hq _ _ hR hp
set_option maxRecDepth 100000 in
set_option maxHeartbeats 1000000 in
theorem q_X12_itemIn_5 {a0 : Nat} {arr : Nat → Nat} {P : Int32 → MS → Prop} {Q : Int32 → St → Prop} (hq : ∀ (r : Int32) (s : St), RF a0 arr s → P r (absM a0 arr s) → Q r s) : ∀ (f : Nat) (x1 : Int32) (x2 : Int32) (x3 : Int32) (x4 : Int32) (σ : St), RF a0 arr σ → p_X12_itemIn_5 P  f x1 x2 x3 x4 (absM a0 arr σ) → w_X12_itemIn_5 Q  f a0 x1 x2 x3 x4 σ := by
  intro f
  induction f with
  | zero => intro x1 x2 x3 x4 σ hR hp; exact hp.elim
  | succ f ih =>
    intro x1 x2 x3 x4 σ hR hp
    unfold p_X12_itemIn_5 at hp
    unfold w_X12_itemIn_5
    refine ⟨fun c => ?_, fun c => ?_⟩
    · replace hp := hp.1 c
      exact hq _ _ hR hp
    · replace hp := hp.2 c
      intro o52 ho52
      rw [hR.ref 16 (by first | decide | assumption)] at ho52
      subst ho52
      refine ⟨arr 16, rfl, ?_⟩
      refine ⟨by rw [hR.len 16 (by first | decide | assumption)]; exact hp.1, ?_⟩
      replace hp := hp.2
      refine ⟨fun c => ?_, fun c => ?_⟩
      · replace hp := hp.1 c
        intro x56 hx56
        replace hp := hp x56 hx56
        exact ih _ _ _ _ _ hR hp
      · replace hp := hp.2 c
        intro o57 ho57
        rw [hR.ref 19 (by first | decide | assumption)] at ho57
        subst ho57
        refine ⟨arr 19, rfl, ?_⟩
        refine ⟨by rw [hR.len 19 (by first | decide | assumption)]; exact hp.1, ?_⟩
        replace hp := hp.2
        intro x60 hx60
        replace hp := hp x60 hx60
        exact ih _ _ _ _ _ hR hp
set_option maxRecDepth 100000 in
set_option maxHeartbeats 1000000 in
theorem q_X12_itemIn {a0 : Nat} {arr : Nat → Nat} {σ : St} {x1 : Int32} {x2 : Int32} (hR : RF a0 arr σ) {P : Int32 → MS → Prop} (hp : p_X12_itemIn x1 x2 (absM a0 arr σ) P) {Q : Int32 → St → Prop} (hq : ∀ (r : Int32) (s : St), RF a0 arr s → P r (absM a0 arr s) → Q r s) : w_X12_itemIn a0 x1 x2 σ Q := by
  unfold p_X12_itemIn at hp
  unfold w_X12_itemIn
  obtain ⟨f61, hp⟩ := hp
  refine ⟨f61, ?_⟩
  exact q_X12_itemIn_5 hq f61 _ _ _ _ _ hR hp
set_option maxRecDepth 100000 in
set_option maxHeartbeats 1000000 in
theorem q_X12_lacking_16 {a0 : Nat} {arr : Nat → Nat} {P : Int32 → MS → Prop} {Q : Int32 → St → Prop} (hq : ∀ (r : Int32) (s : St), RF a0 arr s → P r (absM a0 arr s) → Q r s) : ∀ (f : Nat) (x1 : Int32) (x2 : Int32) (x3 : Int32) (σ : St), RF a0 arr σ → p_X12_lacking_16 P  f x1 x2 x3 (absM a0 arr σ) → w_X12_lacking_16 Q  f a0 x1 x2 x3 σ := by
  intro f
  induction f with
  | zero => intro x1 x2 x3 σ hR hp; exact hp.elim
  | succ f ih =>
    intro x1 x2 x3 σ hR hp
    unfold p_X12_lacking_16 at hp
    unfold w_X12_lacking_16
    refine ⟨fun c => ?_, fun c => ?_⟩
    · replace hp := hp.1 c
      exact hq _ _ hR hp
    · replace hp := hp.2 c
      intro o59 ho59
      rw [hR.ref 40 (by first | decide | assumption)] at ho59
      subst ho59
      refine ⟨arr 40, rfl, ?_⟩
      refine ⟨by rw [hR.len 40 (by first | decide | assumption)]; exact hp.1, ?_⟩
      replace hp := hp.2
      refine ⟨fun c => ?_, fun c => ?_⟩
      · replace hp := hp.1 c
        intro x63 hx63
        replace hp := hp x63 hx63
        exact ih _ _ _ _ hR hp
      · replace hp := hp.2 c
        intro o64 ho64
        rw [hR.ref 43 (by first | decide | assumption)] at ho64
        subst ho64
        refine ⟨arr 43, rfl, ?_⟩
        refine ⟨by rw [hR.len 43 (by first | decide | assumption)]; exact hp.1, ?_⟩
        replace hp := hp.2
        intro x67 hx67
        replace hp := hp x67 hx67
        exact ih _ _ _ _ hR hp
set_option maxRecDepth 100000 in
set_option maxHeartbeats 1000000 in
theorem q_X12_lacking {a0 : Nat} {arr : Nat → Nat} {σ : St} {x1 : Int32} (hR : RF a0 arr σ) {P : Int32 → MS → Prop} (hp : p_X12_lacking x1 (absM a0 arr σ) P) {Q : Int32 → St → Prop} (hq : ∀ (r : Int32) (s : St), RF a0 arr s → P r (absM a0 arr s) → Q r s) : w_X12_lacking a0 x1 σ Q := by
  unfold p_X12_lacking at hp
  unfold w_X12_lacking
  intro o51 ho51
  rw [hR.ref 37 (by first | decide | assumption)] at ho51
  subst ho51
  refine ⟨arr 37, rfl, ?_⟩
  refine ⟨by rw [hR.len 37 (by first | decide | assumption)]; exact hp.1, ?_⟩
  replace hp := hp.2
  intro o54 ho54
  rw [hR.ref 38 (by first | decide | assumption)] at ho54
  subst ho54
  refine ⟨arr 38, rfl, ?_⟩
  refine ⟨by rw [hR.len 38 (by first | decide | assumption)]; exact hp.1, ?_⟩
  replace hp := hp.2
  intro x57 hx57
  replace hp := hp x57 hx57
  obtain ⟨f68, hp⟩ := hp
  refine ⟨f68, ?_⟩
  exact q_X12_lacking_16 hq f68 _ _ _ _ hR hp
set_option maxRecDepth 100000 in
set_option maxHeartbeats 1000000 in
theorem q_X12_less {a0 : Nat} {arr : Nat → Nat} {σ : St} {x0 : Int32} {x1 : Int32} (hR : RF a0 arr σ) {P : Int32 → MS → Prop} (hp : p_X12_less x0 x1 (absM a0 arr σ) P) {Q : Int32 → St → Prop} (hq : ∀ (r : Int32) (s : St), RF a0 arr s → P r (absM a0 arr s) → Q r s) : w_X12_less x0 x1 σ Q := by
  unfold p_X12_less at hp
  unfold w_X12_less
  refine ⟨fun c => ?_, fun c => ?_⟩
  · replace hp := hp.1 c
    exact hq _ _ hR hp
  · replace hp := hp.2 c
    exact hq _ _ hR hp
set_option maxRecDepth 100000 in
set_option maxHeartbeats 1000000 in
theorem q_X12_makes {a0 : Nat} {arr : Nat → Nat} {σ : St} {x1 : Int32} {x2 : Int32} {x3 : Int32} {x4 : Int32} {x5 : Int32} {x6 : Int32} (hR : RF a0 arr σ) {P : Int32 → MS → Prop} (hp : p_X12_makes x1 x2 x3 x4 x5 x6 (absM a0 arr σ) P) {Q : Int32 → St → Prop} (hq : ∀ (r : Int32) (s : St), RF a0 arr s → P r (absM a0 arr s) → Q r s) : w_X12_makes a0 x1 x2 x3 x4 x5 x6 σ Q := by
  unfold p_X12_makes at hp
  unfold w_X12_makes
  intro o51 ho51
  rw [hR.ref 46 (by first | decide | assumption)] at ho51
  subst ho51
  refine ⟨arr 46, rfl, ?_⟩
  refine ⟨by rw [hR.len 46 (by first | decide | assumption)]; exact hp.1, ?_⟩
  replace hp := hp.2
  intro s54 hs54
  have h2 := abs_setA hR 46 (by first | decide | assumption) hs54
  replace hR := hR.setA hs54
  replace hp := hp _ h2
  clear h2 hs54
  intro o55 ho55
  rw [hR.ref 47 (by first | decide | assumption)] at ho55
  subst ho55
  refine ⟨arr 47, rfl, ?_⟩
  refine ⟨by rw [hR.len 47 (by first | decide | assumption)]; exact hp.1, ?_⟩
  replace hp := hp.2
  intro s58 hs58
  have h2 := abs_setA hR 47 (by first | decide | assumption) hs58
  replace hR := hR.setA hs58
  replace hp := hp _ h2
  clear h2 hs58
  intro o59 ho59
  rw [hR.ref 48 (by first | decide | assumption)] at ho59
  subst ho59
  refine ⟨arr 48, rfl, ?_⟩
  refine ⟨by rw [hR.len 48 (by first | decide | assumption)]; exact hp.1, ?_⟩
  replace hp := hp.2
  intro s62 hs62
  have h2 := abs_setA hR 48 (by first | decide | assumption) hs62
  replace hR := hR.setA hs62
  replace hp := hp _ h2
  clear h2 hs62
  intro o63 ho63
  rw [hR.ref 49 (by first | decide | assumption)] at ho63
  subst ho63
  refine ⟨arr 49, rfl, ?_⟩
  refine ⟨by rw [hR.len 49 (by first | decide | assumption)]; exact hp.1, ?_⟩
  replace hp := hp.2
  intro s66 hs66
  have h2 := abs_setA hR 49 (by first | decide | assumption) hs66
  replace hR := hR.setA hs66
  replace hp := hp _ h2
  clear h2 hs66
  intro o67 ho67
  rw [hR.ref 50 (by first | decide | assumption)] at ho67
  subst ho67
  refine ⟨arr 50, rfl, ?_⟩
  refine ⟨by rw [hR.len 50 (by first | decide | assumption)]; exact hp.1, ?_⟩
  replace hp := hp.2
  intro s70 hs70
  have h2 := abs_setA hR 50 (by first | decide | assumption) hs70
  replace hR := hR.setA hs70
  replace hp := hp _ h2
  clear h2 hs70
  intro o71 ho71
  rw [hR.ref 51 (by first | decide | assumption)] at ho71
  subst ho71
  refine ⟨arr 51, rfl, ?_⟩
  refine ⟨by rw [hR.len 51 (by first | decide | assumption)]; exact hp.1, ?_⟩
  replace hp := hp.2
  intro s74 hs74
  have h2 := abs_setA hR 51 (by first | decide | assumption) hs74
  replace hR := hR.setA hs74
  replace hp := hp _ h2
  clear h2 hs74
  intro o75 ho75
  rw [hR.ref 52 (by first | decide | assumption)] at ho75
  subst ho75
  refine ⟨arr 52, rfl, ?_⟩
  refine ⟨by rw [hR.len 52 (by first | decide | assumption)]; exact hp.1, ?_⟩
  replace hp := hp.2
  intro s78 hs78
  have h2 := abs_setA hR 52 (by first | decide | assumption) hs78
  replace hR := hR.setA hs78
  replace hp := hp _ h2
  clear h2 hs78
  intro o79 ho79
  rw [hR.ref 53 (by first | decide | assumption)] at ho79
  subst ho79
  refine ⟨arr 53, rfl, ?_⟩
  refine ⟨by rw [hR.len 53 (by first | decide | assumption)]; exact hp.1, ?_⟩
  replace hp := hp.2
  intro s82 hs82
  have h2 := abs_setA hR 53 (by first | decide | assumption) hs82
  replace hR := hR.setA hs82
  replace hp := hp _ h2
  clear h2 hs82
  intro o83 ho83
  rw [hR.ref 54 (by first | decide | assumption)] at ho83
  subst ho83
  refine ⟨arr 54, rfl, ?_⟩
  refine ⟨by rw [hR.len 54 (by first | decide | assumption)]; exact hp.1, ?_⟩
  replace hp := hp.2
  intro s86 hs86
  have h2 := abs_setA hR 54 (by first | decide | assumption) hs86
  replace hR := hR.setA hs86
  replace hp := hp _ h2
  clear h2 hs86
  intro s87 hs87
  have h2 := abs_setI (arr := arr) 45 (by first | decide | assumption) hs87
  replace hR := hR.setI hs87
  replace hp := hp _ h2
  clear h2 hs87
  exact hq _ _ hR hp
set_option maxRecDepth 100000 in
set_option maxHeartbeats 1000000 in
theorem q_X12_nextLot_95 {a0 : Nat} {arr : Nat → Nat} {P : Int32 → MS → Prop} {Q : Int32 → St → Prop} (hq : ∀ (r : Int32) (s : St), RF a0 arr s → P r (absM a0 arr s) → Q r s) {K5 : Nat → Int32 → Int32 → Int32 → Int32 → St → Prop} {LK5 : Int32 → Int32 → Int32 → Int32 → MS → Prop} (hK5 : ∀ (y1 : Int32) (y2 : Int32) (y3 : Int32) (y4 : Int32) (y5 : St), RF a0 arr y5 → LK5 y1 y2 y3 y4 (absM a0 arr y5) → K5 a0 y1 y2 y3 y4 y5) : ∀ (x1 : Int32) (x2 : Int32) (x3 : Int32) (x4 : Int32) (xs0 : Int32) (σ : St), RF a0 arr σ → p_X12_nextLot_95 P LK5 x1 x2 x3 x4 xs0 (absM a0 arr σ) → w_X12_nextLot_95 Q K5 a0 x1 x2 x3 x4 xs0 σ := by
  intro x1 x2 x3 x4 xs0 σ hR hp
  unfold p_X12_nextLot_95 at hp
  unfold w_X12_nextLot_95
  refine ⟨fun c => ?_, fun c => ?_⟩
  · replace hp := hp.1 c
    exact hK5 _ _ _ _ _ hR hp
  · replace hp := hp.2 c
    refine ⟨fun c => ?_, fun c => ?_⟩
    · replace hp := hp.1 c
      exact hK5 _ _ _ _ _ hR hp
    · replace hp := hp.2 c
      intro o59 ho59
      rw [hR.ref 17 (by first | decide | assumption)] at ho59
      subst ho59
      refine ⟨arr 17, rfl, ?_⟩
      refine ⟨by rw [hR.len 17 (by first | decide | assumption)]; exact hp.1, ?_⟩
      replace hp := hp.2
      intro o62 ho62
      rw [hR.ref 17 (by first | decide | assumption)] at ho62
      subst ho62
      refine ⟨arr 17, rfl, ?_⟩
      refine ⟨by rw [hR.len 17 (by first | decide | assumption)]; exact hp.1, ?_⟩
      replace hp := hp.2
      refine ⟨fun c => ?_, fun c => ?_⟩
      · replace hp := hp.1 c
        exact hK5 _ _ _ _ _ hR hp
      · replace hp := hp.2 c
        exact hK5 _ _ _ _ _ hR hp
set_option maxRecDepth 100000 in
set_option maxHeartbeats 1000000 in
theorem q_X12_nextLot_94 {a0 : Nat} {arr : Nat → Nat} {P : Int32 → MS → Prop} {Q : Int32 → St → Prop} (hq : ∀ (r : Int32) (s : St), RF a0 arr s → P r (absM a0 arr s) → Q r s) {K5 : Nat → Int32 → Int32 → Int32 → Int32 → St → Prop} {LK5 : Int32 → Int32 → Int32 → Int32 → MS → Prop} (hK5 : ∀ (y1 : Int32) (y2 : Int32) (y3 : Int32) (y4 : Int32) (y5 : St), RF a0 arr y5 → LK5 y1 y2 y3 y4 (absM a0 arr y5) → K5 a0 y1 y2 y3 y4 y5) : ∀ (x1 : Int32) (x2 : Int32) (x3 : Int32) (x4 : Int32) (σ : St), RF a0 arr σ → p_X12_nextLot_94 P LK5 x1 x2 x3 x4 (absM a0 arr σ) → w_X12_nextLot_94 Q K5 a0 x1 x2 x3 x4 σ := by
  intro x1 x2 x3 x4 σ hR hp
  unfold p_X12_nextLot_94 at hp
  unfold w_X12_nextLot_94
  exact q_X12_nextLot_95 hq hK5 _ _ _ _ _ _ hR hp
set_option maxRecDepth 100000 in
set_option maxHeartbeats 1000000 in
theorem q_X12_nextLot_62 {a0 : Nat} {arr : Nat → Nat} {P : Int32 → MS → Prop} {Q : Int32 → St → Prop} (hq : ∀ (r : Int32) (s : St), RF a0 arr s → P r (absM a0 arr s) → Q r s) {K5 : Nat → Int32 → Int32 → Int32 → Int32 → St → Prop} {LK5 : Int32 → Int32 → Int32 → Int32 → MS → Prop} (hK5 : ∀ (y1 : Int32) (y2 : Int32) (y3 : Int32) (y4 : Int32) (y5 : St), RF a0 arr y5 → LK5 y1 y2 y3 y4 (absM a0 arr y5) → K5 a0 y1 y2 y3 y4 y5) : ∀ (x1 : Int32) (x2 : Int32) (x3 : Int32) (x4 : Int32) (xs0 : Int32) (σ : St), RF a0 arr σ → p_X12_nextLot_62 P LK5 x1 x2 x3 x4 xs0 (absM a0 arr σ) → w_X12_nextLot_62 Q K5 a0 x1 x2 x3 x4 xs0 σ := by
  intro x1 x2 x3 x4 xs0 σ hR hp
  unfold p_X12_nextLot_62 at hp
  unfold w_X12_nextLot_62
  intro o53 ho53
  rw [hR.ref 16 (by first | decide | assumption)] at ho53
  subst ho53
  refine ⟨arr 16, rfl, ?_⟩
  refine ⟨by rw [hR.len 16 (by first | decide | assumption)]; exact hp.1, ?_⟩
  replace hp := hp.2
  refine ⟨fun c => ?_, fun c => ?_⟩
  · replace hp := hp.1 c
    exact q_X12_nextLot_94 hq hK5 _ _ _ _ _ hR hp
  · replace hp := hp.2 c
    intro o66 ho66
    rw [hR.ref 18 (by first | decide | assumption)] at ho66
    subst ho66
    refine ⟨arr 18, rfl, ?_⟩
    refine ⟨by rw [hR.len 18 (by first | decide | assumption)]; exact hp.1, ?_⟩
    replace hp := hp.2
    refine ⟨fun c => ?_, fun c => ?_⟩
    · replace hp := hp.1 c
      exact q_X12_nextLot_94 hq hK5 _ _ _ _ _ hR hp
    · replace hp := hp.2 c
      refine ⟨fun c => ?_, fun c => ?_⟩
      · replace hp := hp.1 c
        exact q_X12_nextLot_94 hq hK5 _ _ _ _ _ hR hp
      · replace hp := hp.2 c
        exact q_X12_nextLot_95 hq hK5 _ _ _ _ _ _ hR hp
set_option maxRecDepth 100000 in
set_option maxHeartbeats 1000000 in
theorem q_X12_nextLot_61 {a0 : Nat} {arr : Nat → Nat} {P : Int32 → MS → Prop} {Q : Int32 → St → Prop} (hq : ∀ (r : Int32) (s : St), RF a0 arr s → P r (absM a0 arr s) → Q r s) {K5 : Nat → Int32 → Int32 → Int32 → Int32 → St → Prop} {LK5 : Int32 → Int32 → Int32 → Int32 → MS → Prop} (hK5 : ∀ (y1 : Int32) (y2 : Int32) (y3 : Int32) (y4 : Int32) (y5 : St), RF a0 arr y5 → LK5 y1 y2 y3 y4 (absM a0 arr y5) → K5 a0 y1 y2 y3 y4 y5) : ∀ (x1 : Int32) (x2 : Int32) (x3 : Int32) (x4 : Int32) (σ : St), RF a0 arr σ → p_X12_nextLot_61 P LK5 x1 x2 x3 x4 (absM a0 arr σ) → w_X12_nextLot_61 Q K5 a0 x1 x2 x3 x4 σ := by
  intro x1 x2 x3 x4 σ hR hp
  unfold p_X12_nextLot_61 at hp
  unfold w_X12_nextLot_61
  exact q_X12_nextLot_62 hq hK5 _ _ _ _ _ _ hR hp
set_option maxRecDepth 100000 in
set_option maxHeartbeats 1000000 in
theorem q_X12_nextLot_5 {a0 : Nat} {arr : Nat → Nat} {P : Int32 → MS → Prop} {Q : Int32 → St → Prop} (hq : ∀ (r : Int32) (s : St), RF a0 arr s → P r (absM a0 arr s) → Q r s) : ∀ (f : Nat) (x1 : Int32) (x2 : Int32) (x3 : Int32) (x4 : Int32) (σ : St), RF a0 arr σ → p_X12_nextLot_5 P  f x1 x2 x3 x4 (absM a0 arr σ) → w_X12_nextLot_5 Q  f a0 x1 x2 x3 x4 σ := by
  intro f
  induction f with
  | zero => intro x1 x2 x3 x4 σ hR hp; exact hp.elim
  | succ f ih =>
    intro x1 x2 x3 x4 σ hR hp
    unfold p_X12_nextLot_5 at hp
    unfold w_X12_nextLot_5
    refine ⟨fun c => ?_, fun c => ?_⟩
    · replace hp := hp.1 c
      exact hq _ _ hR hp
    · replace hp := hp.2 c
      refine ⟨fun c => ?_, fun c => ?_⟩
      · replace hp := hp.1 c
        exact q_X12_nextLot_62 hq ih _ _ _ _ _ _ hR hp
      · replace hp := hp.2 c
        intro o71 ho71
        rw [hR.ref 17 (by first | decide | assumption)] at ho71
        subst ho71
        refine ⟨arr 17, rfl, ?_⟩
        refine ⟨by rw [hR.len 17 (by first | decide | assumption)]; exact hp.1, ?_⟩
        replace hp := hp.2
        intro o74 ho74
        rw [hR.ref 17 (by first | decide | assumption)] at ho74
        subst ho74
        refine ⟨arr 17, rfl, ?_⟩
        refine ⟨by rw [hR.len 17 (by first | decide | assumption)]; exact hp.1, ?_⟩
        replace hp := hp.2
        refine ⟨fun c => ?_, fun c => ?_⟩
        · replace hp := hp.1 c
          exact q_X12_nextLot_62 hq ih _ _ _ _ _ _ hR hp
        · replace hp := hp.2 c
          intro o78 ho78
          rw [hR.ref 17 (by first | decide | assumption)] at ho78
          subst ho78
          refine ⟨arr 17, rfl, ?_⟩
          refine ⟨by rw [hR.len 17 (by first | decide | assumption)]; exact hp.1, ?_⟩
          replace hp := hp.2
          intro o81 ho81
          rw [hR.ref 17 (by first | decide | assumption)] at ho81
          subst ho81
          refine ⟨arr 17, rfl, ?_⟩
          refine ⟨by rw [hR.len 17 (by first | decide | assumption)]; exact hp.1, ?_⟩
          replace hp := hp.2
          refine ⟨fun c => ?_, fun c => ?_⟩
          · replace hp := hp.1 c
            exact q_X12_nextLot_61 hq ih _ _ _ _ _ hR hp
          · replace hp := hp.2 c
            refine ⟨fun c => ?_, fun c => ?_⟩
            · replace hp := hp.1 c
              exact q_X12_nextLot_61 hq ih _ _ _ _ _ hR hp
            · replace hp := hp.2 c
              exact q_X12_nextLot_62 hq ih _ _ _ _ _ _ hR hp
set_option maxRecDepth 100000 in
set_option maxHeartbeats 1000000 in
theorem q_X12_nextLot {a0 : Nat} {arr : Nat → Nat} {σ : St} {x1 : Int32} {x2 : Int32} (hR : RF a0 arr σ) {P : Int32 → MS → Prop} (hp : p_X12_nextLot x1 x2 (absM a0 arr σ) P) {Q : Int32 → St → Prop} (hq : ∀ (r : Int32) (s : St), RF a0 arr s → P r (absM a0 arr s) → Q r s) : w_X12_nextLot a0 x1 x2 σ Q := by
  unfold p_X12_nextLot at hp
  unfold w_X12_nextLot
  obtain ⟨f86, hp⟩ := hp
  refine ⟨f86, ?_⟩
  exact q_X12_nextLot_5 hq f86 _ _ _ _ _ hR hp
set_option maxRecDepth 100000 in
set_option maxHeartbeats 1000000 in
theorem q_X12_nextOf_4 {a0 : Nat} {arr : Nat → Nat} {P : Int32 → MS → Prop} {Q : Int32 → St → Prop} (hq : ∀ (r : Int32) (s : St), RF a0 arr s → P r (absM a0 arr s) → Q r s) : ∀ (f : Nat) (x1 : Int32) (x2 : Int32) (x3 : Int32) (σ : St), RF a0 arr σ → p_X12_nextOf_4 P  f x1 x2 x3 (absM a0 arr σ) → w_X12_nextOf_4 Q  f a0 x1 x2 x3 σ := by
  intro f
  induction f with
  | zero => intro x1 x2 x3 σ hR hp; exact hp.elim
  | succ f ih =>
    intro x1 x2 x3 σ hR hp
    unfold p_X12_nextOf_4 at hp
    unfold w_X12_nextOf_4
    refine ⟨fun c => ?_, fun c => ?_⟩
    · replace hp := hp.1 c
      exact hq _ _ hR hp
    · replace hp := hp.2 c
      intro o52 ho52
      rw [hR.ref 57 (by first | decide | assumption)] at ho52
      subst ho52
      refine ⟨arr 57, rfl, ?_⟩
      refine ⟨by rw [hR.len 57 (by first | decide | assumption)]; exact hp.1, ?_⟩
      replace hp := hp.2
      refine ⟨fun c => ?_, fun c => ?_⟩
      · replace hp := hp.1 c
        exact ih _ _ _ _ hR hp
      · replace hp := hp.2 c
        intro o56 ho56
        rw [hR.ref 55 (by first | decide | assumption)] at ho56
        subst ho56
        refine ⟨arr 55, rfl, ?_⟩
        refine ⟨by rw [hR.len 55 (by first | decide | assumption)]; exact hp.1, ?_⟩
        replace hp := hp.2
        intro o59 ho59
        rw [hR.ref 57 (by first | decide | assumption)] at ho59
        subst ho59
        refine ⟨arr 57, rfl, ?_⟩
        refine ⟨by rw [hR.len 57 (by first | decide | assumption)]; exact hp.1, ?_⟩
        replace hp := hp.2
        refine ⟨fun c => ?_, fun c => ?_⟩
        · replace hp := hp.1 c
          exact ih _ _ _ _ hR hp
        · replace hp := hp.2 c
          exact ih _ _ _ _ hR hp
set_option maxRecDepth 100000 in
set_option maxHeartbeats 1000000 in
theorem q_X12_nextOf {a0 : Nat} {arr : Nat → Nat} {σ : St} {x1 : Int32} (hR : RF a0 arr σ) {P : Int32 → MS → Prop} (hp : p_X12_nextOf x1 (absM a0 arr σ) P) {Q : Int32 → St → Prop} (hq : ∀ (r : Int32) (s : St), RF a0 arr s → P r (absM a0 arr s) → Q r s) : w_X12_nextOf a0 x1 σ Q := by
  unfold p_X12_nextOf at hp
  unfold w_X12_nextOf
  obtain ⟨f63, hp⟩ := hp
  refine ⟨f63, ?_⟩
  exact q_X12_nextOf_4 hq f63 _ _ _ _ hR hp
set_option maxRecDepth 100000 in
set_option maxHeartbeats 1000000 in
theorem q_X12_slotAt {a0 : Nat} {arr : Nat → Nat} {σ : St} {x0 : Int32} (hR : RF a0 arr σ) {P : Int32 → MS → Prop} (hp : p_X12_slotAt x0 (absM a0 arr σ) P) {Q : Int32 → St → Prop} (hq : ∀ (r : Int32) (s : St), RF a0 arr s → P r (absM a0 arr s) → Q r s) : w_X12_slotAt x0 σ Q := by
  unfold p_X12_slotAt at hp
  unfold w_X12_slotAt
  refine ⟨fun c => ?_, fun c => ?_⟩
  · replace hp := hp.1 c
    exact hq _ _ hR hp
  · replace hp := hp.2 c
    exact hq _ _ hR hp
set_option maxRecDepth 100000 in
set_option maxHeartbeats 1000000 in
theorem q_X12_standstills {a0 : Nat} {arr : Nat → Nat} {σ : St}  (hR : RF a0 arr σ) {P : Int32 → MS → Prop} (hp : p_X12_standstills  (absM a0 arr σ) P) {Q : Int32 → St → Prop} (hq : ∀ (r : Int32) (s : St), RF a0 arr s → P r (absM a0 arr s) → Q r s) : w_X12_standstills a0 σ Q := by
  unfold p_X12_standstills at hp
  unfold w_X12_standstills
  intro s51 hs51
  have h2 := abs_setI (arr := arr) 0 (by first | decide | assumption) hs51
  replace hR := hR.setI hs51
  replace hp := hp _ h2
  clear h2 hs51
  exact hq _ _ hR hp
set_option maxRecDepth 100000 in
set_option maxHeartbeats 1000000 in
theorem q_X12_tasks {a0 : Nat} {arr : Nat → Nat} {σ : St}  (hR : RF a0 arr σ) {P : Int32 → MS → Prop} (hp : p_X12_tasks  (absM a0 arr σ) P) {Q : Int32 → St → Prop} (hq : ∀ (r : Int32) (s : St), RF a0 arr s → P r (absM a0 arr s) → Q r s) : w_X12_tasks a0 σ Q := by
  unfold p_X12_tasks at hp
  unfold w_X12_tasks
  intro s51 hs51
  have h2 := abs_setI (arr := arr) 0 (by first | decide | assumption) hs51
  replace hR := hR.setI hs51
  replace hp := hp _ h2
  clear h2 hs51
  exact hq _ _ hR hp
set_option maxRecDepth 100000 in
set_option maxHeartbeats 1000000 in
theorem q_X12_thrown {a0 : Nat} {arr : Nat → Nat} {σ : St}  (hR : RF a0 arr σ) {P : Int32 → MS → Prop} (hp : p_X12_thrown  (absM a0 arr σ) P) {Q : Int32 → St → Prop} (hq : ∀ (r : Int32) (s : St), RF a0 arr s → P r (absM a0 arr s) → Q r s) : w_X12_thrown a0 σ Q := by
  unfold p_X12_thrown at hp
  unfold w_X12_thrown
  exact hq _ _ hR hp
set_option maxRecDepth 100000 in
set_option maxHeartbeats 1000000 in
theorem q_X12_tidies_4 {a0 : Nat} {arr : Nat → Nat} {P : MS → Prop} {Q : St → Prop} (hq : ∀ (s : St), RF a0 arr s → P (absM a0 arr s) → Q s) : ∀ (f : Nat) (x1 : Int32) (x2 : Int32) (σ : St), RF a0 arr σ → p_X12_tidies_4 P  f x1 x2 (absM a0 arr σ) → w_X12_tidies_4 Q  f a0 x1 x2 σ := by
  intro f
  induction f with
  | zero => intro x1 x2 σ hR hp; exact hp.elim
  | succ f ih =>
    intro x1 x2 σ hR hp
    unfold p_X12_tidies_4 at hp
    unfold w_X12_tidies_4
    refine ⟨fun c => ?_, fun c => ?_⟩
    · replace hp := hp.1 c
      intro s52 hs52
      have h2 := abs_setI (arr := arr) 39 (by first | decide | assumption) hs52
      replace hR := hR.setI hs52
      replace hp := hp _ h2
      clear h2 hs52
      exact hq _ hR hp
    · replace hp := hp.2 c
      intro o53 ho53
      rw [hR.ref 43 (by first | decide | assumption)] at ho53
      subst ho53
      refine ⟨arr 43, rfl, ?_⟩
      refine ⟨by rw [hR.len 43 (by first | decide | assumption)]; exact hp.1, ?_⟩
      replace hp := hp.2
      refine ⟨fun c => ?_, fun c => ?_⟩
      · replace hp := hp.1 c
        exact ih _ _ _ hR hp
      · replace hp := hp.2 c
        intro o57 ho57
        rw [hR.ref 40 (by first | decide | assumption)] at ho57
        subst ho57
        intro o58 ho58
        rw [hR.ref 40 (by first | decide | assumption)] at ho58
        subst ho58
        refine ⟨arr 40, rfl, ?_⟩
        refine ⟨by rw [hR.len 40 (by first | decide | assumption)]; exact hp.1, ?_⟩
        replace hp := hp.2
        refine ⟨arr 40, rfl, ?_⟩
        refine ⟨by rw [hR.len 40 (by first | decide | assumption)]; exact hp.1, ?_⟩
        replace hp := hp.2
        intro s63 hs63
        have h2 := abs_setA hR 40 (by first | decide | assumption) hs63
        replace hR := hR.setA hs63
        replace hp := hp _ h2
        clear h2 hs63
        intro o64 ho64
        rw [hR.ref 41 (by first | decide | assumption)] at ho64
        subst ho64
        intro o65 ho65
        rw [hR.ref 41 (by first | decide | assumption)] at ho65
        subst ho65
        refine ⟨arr 41, rfl, ?_⟩
        refine ⟨by rw [hR.len 41 (by first | decide | assumption)]; exact hp.1, ?_⟩
        replace hp := hp.2
        refine ⟨arr 41, rfl, ?_⟩
        refine ⟨by rw [hR.len 41 (by first | decide | assumption)]; exact hp.1, ?_⟩
        replace hp := hp.2
        intro s70 hs70
        have h2 := abs_setA hR 41 (by first | decide | assumption) hs70
        replace hR := hR.setA hs70
        replace hp := hp _ h2
        clear h2 hs70
        intro o71 ho71
        rw [hR.ref 42 (by first | decide | assumption)] at ho71
        subst ho71
        intro o72 ho72
        rw [hR.ref 42 (by first | decide | assumption)] at ho72
        subst ho72
        refine ⟨arr 42, rfl, ?_⟩
        refine ⟨by rw [hR.len 42 (by first | decide | assumption)]; exact hp.1, ?_⟩
        replace hp := hp.2
        refine ⟨arr 42, rfl, ?_⟩
        refine ⟨by rw [hR.len 42 (by first | decide | assumption)]; exact hp.1, ?_⟩
        replace hp := hp.2
        intro s77 hs77
        have h2 := abs_setA hR 42 (by first | decide | assumption) hs77
        replace hR := hR.setA hs77
        replace hp := hp _ h2
        clear h2 hs77
        intro o78 ho78
        rw [hR.ref 43 (by first | decide | assumption)] at ho78
        subst ho78
        intro o79 ho79
        rw [hR.ref 43 (by first | decide | assumption)] at ho79
        subst ho79
        refine ⟨arr 43, rfl, ?_⟩
        refine ⟨by rw [hR.len 43 (by first | decide | assumption)]; exact hp.1, ?_⟩
        replace hp := hp.2
        refine ⟨arr 43, rfl, ?_⟩
        refine ⟨by rw [hR.len 43 (by first | decide | assumption)]; exact hp.1, ?_⟩
        replace hp := hp.2
        intro s84 hs84
        have h2 := abs_setA hR 43 (by first | decide | assumption) hs84
        replace hR := hR.setA hs84
        replace hp := hp _ h2
        clear h2 hs84
        intro o85 ho85
        rw [hR.ref 44 (by first | decide | assumption)] at ho85
        subst ho85
        intro o86 ho86
        rw [hR.ref 44 (by first | decide | assumption)] at ho86
        subst ho86
        refine ⟨arr 44, rfl, ?_⟩
        refine ⟨by rw [hR.len 44 (by first | decide | assumption)]; exact hp.1, ?_⟩
        replace hp := hp.2
        refine ⟨arr 44, rfl, ?_⟩
        refine ⟨by rw [hR.len 44 (by first | decide | assumption)]; exact hp.1, ?_⟩
        replace hp := hp.2
        intro s91 hs91
        have h2 := abs_setA hR 44 (by first | decide | assumption) hs91
        replace hR := hR.setA hs91
        replace hp := hp _ h2
        clear h2 hs91
        exact ih _ _ _ hR hp
set_option maxRecDepth 100000 in
set_option maxHeartbeats 1000000 in
theorem q_X12_tidies {a0 : Nat} {arr : Nat → Nat} {σ : St}  (hR : RF a0 arr σ) {P : MS → Prop} (hp : p_X12_tidies  (absM a0 arr σ) P) {Q : St → Prop} (hq : ∀ (s : St), RF a0 arr s → P (absM a0 arr s) → Q s) : w_X12_tidies a0 σ Q := by
  unfold p_X12_tidies at hp
  unfold w_X12_tidies
  obtain ⟨f92, hp⟩ := hp
  refine ⟨f92, ?_⟩
  exact q_X12_tidies_4 hq f92 _ _ _ hR hp
set_option maxRecDepth 100000 in
set_option maxHeartbeats 1000000 in
theorem q_X12_arePieces {a0 : Nat} {arr : Nat → Nat} {σ : St} {x0 : Int32} (hR : RF a0 arr σ) {P : Int32 → MS → Prop} (hp : p_X12_arePieces x0 (absM a0 arr σ) P) {Q : Int32 → St → Prop} (hq : ∀ (r : Int32) (s : St), RF a0 arr s → P r (absM a0 arr s) → Q r s) : w_X12_arePieces x0 σ Q := by
  unfold p_X12_arePieces at hp
  unfold w_X12_arePieces
  refine q_X12_isIn hR hp (fun x51 s52 hR hp => ?_)
  refine ⟨hp.1, ?_⟩
  replace hp := hp.2
  exact hq _ _ hR hp
set_option maxRecDepth 100000 in
set_option maxHeartbeats 1000000 in
theorem q_X12_heldAt_79 {a0 : Nat} {arr : Nat → Nat} {P : Int32 → MS → Prop} {Q : Int32 → St → Prop} (hq : ∀ (r : Int32) (s : St), RF a0 arr s → P r (absM a0 arr s) → Q r s) : ∀ (f : Nat) (x1 : Int32) (x2 : Int32) (x3 : Int32) (x4 : Int32) (σ : St), RF a0 arr σ → p_X12_heldAt_79 P  f x1 x2 x3 x4 (absM a0 arr σ) → w_X12_heldAt_79 Q  f a0 x1 x2 x3 x4 σ := by
  intro f
  induction f with
  | zero => intro x1 x2 x3 x4 σ hR hp; exact hp.elim
  | succ f ih =>
    intro x1 x2 x3 x4 σ hR hp
    unfold p_X12_heldAt_79 at hp
    unfold w_X12_heldAt_79
    refine ⟨fun c => ?_, fun c => ?_⟩
    · replace hp := hp.1 c
      exact hq _ _ hR hp
    · replace hp := hp.2 c
      intro o53 ho53
      rw [hR.ref 41 (by first | decide | assumption)] at ho53
      subst ho53
      refine ⟨arr 41, rfl, ?_⟩
      refine ⟨by rw [hR.len 41 (by first | decide | assumption)]; exact hp.1, ?_⟩
      replace hp := hp.2
      refine ⟨fun c => ?_, fun c => ?_⟩
      · replace hp := hp.1 c
        intro x57 hx57
        replace hp := hp x57 hx57
        exact ih _ _ _ _ _ hR hp
      · replace hp := hp.2 c
        intro o58 ho58
        rw [hR.ref 42 (by first | decide | assumption)] at ho58
        subst ho58
        refine ⟨arr 42, rfl, ?_⟩
        refine ⟨by rw [hR.len 42 (by first | decide | assumption)]; exact hp.1, ?_⟩
        replace hp := hp.2
        refine ⟨fun c => ?_, fun c => ?_⟩
        · replace hp := hp.1 c
          intro x62 hx62
          replace hp := hp x62 hx62
          exact ih _ _ _ _ _ hR hp
        · replace hp := hp.2 c
          intro o63 ho63
          rw [hR.ref 43 (by first | decide | assumption)] at ho63
          subst ho63
          refine ⟨arr 43, rfl, ?_⟩
          refine ⟨by rw [hR.len 43 (by first | decide | assumption)]; exact hp.1, ?_⟩
          replace hp := hp.2
          intro x66 hx66
          replace hp := hp x66 hx66
          exact ih _ _ _ _ _ hR hp
set_option maxRecDepth 100000 in
set_option maxHeartbeats 1000000 in
theorem q_X12_heldAt_5 {a0 : Nat} {arr : Nat → Nat} {P : Int32 → MS → Prop} {Q : Int32 → St → Prop} (hq : ∀ (r : Int32) (s : St), RF a0 arr s → P r (absM a0 arr s) → Q r s) : ∀ (f : Nat) (x1 : Int32) (x2 : Int32) (x3 : Int32) (x4 : Int32) (σ : St), RF a0 arr σ → p_X12_heldAt_5 P  f x1 x2 x3 x4 (absM a0 arr σ) → w_X12_heldAt_5 Q  f a0 x1 x2 x3 x4 σ := by
  intro f
  induction f with
  | zero => intro x1 x2 x3 x4 σ hR hp; exact hp.elim
  | succ f ih =>
    intro x1 x2 x3 x4 σ hR hp
    unfold p_X12_heldAt_5 at hp
    unfold w_X12_heldAt_5
    refine ⟨fun c => ?_, fun c => ?_⟩
    · replace hp := hp.1 c
      obtain ⟨f67, hp⟩ := hp
      refine ⟨f67, ?_⟩
      exact q_X12_heldAt_79 hq f67 _ _ _ _ _ hR hp
    · replace hp := hp.2 c
      refine q_X12_isOn hR hp (fun x68 s69 hR hp => ?_)
      refine ⟨fun c => ?_, fun c => ?_⟩
      · replace hp := hp.1 c
        intro x71 hx71
        replace hp := hp x71 hx71
        exact ih _ _ _ _ _ hR hp
      · replace hp := hp.2 c
        intro o72 ho72
        rw [hR.ref 46 (by first | decide | assumption)] at ho72
        subst ho72
        refine ⟨arr 46, rfl, ?_⟩
        refine ⟨by rw [hR.len 46 (by first | decide | assumption)]; exact hp.1, ?_⟩
        replace hp := hp.2
        refine ⟨fun c => ?_, fun c => ?_⟩
        · replace hp := hp.1 c
          intro x76 hx76
          replace hp := hp x76 hx76
          exact ih _ _ _ _ _ hR hp
        · replace hp := hp.2 c
          intro o77 ho77
          rw [hR.ref 48 (by first | decide | assumption)] at ho77
          subst ho77
          refine ⟨arr 48, rfl, ?_⟩
          refine ⟨by rw [hR.len 48 (by first | decide | assumption)]; exact hp.1, ?_⟩
          replace hp := hp.2
          refine ⟨fun c => ?_, fun c => ?_⟩
          · replace hp := hp.1 c
            intro x81 hx81
            replace hp := hp x81 hx81
            exact ih _ _ _ _ _ hR hp
          · replace hp := hp.2 c
            intro o82 ho82
            rw [hR.ref 47 (by first | decide | assumption)] at ho82
            subst ho82
            refine ⟨arr 47, rfl, ?_⟩
            refine ⟨by rw [hR.len 47 (by first | decide | assumption)]; exact hp.1, ?_⟩
            replace hp := hp.2
            refine ⟨fun c => ?_, fun c => ?_⟩
            · replace hp := hp.1 c
              intro x86 hx86
              replace hp := hp x86 hx86
              exact ih _ _ _ _ _ hR hp
            · replace hp := hp.2 c
              intro o87 ho87
              rw [hR.ref 51 (by first | decide | assumption)] at ho87
              subst ho87
              refine ⟨arr 51, rfl, ?_⟩
              refine ⟨by rw [hR.len 51 (by first | decide | assumption)]; exact hp.1, ?_⟩
              replace hp := hp.2
              intro x90 hx90
              replace hp := hp x90 hx90
              exact ih _ _ _ _ _ hR hp
set_option maxRecDepth 100000 in
set_option maxHeartbeats 1000000 in
theorem q_X12_heldAt {a0 : Nat} {arr : Nat → Nat} {σ : St} {x1 : Int32} {x2 : Int32} (hR : RF a0 arr σ) {P : Int32 → MS → Prop} (hp : p_X12_heldAt x1 x2 (absM a0 arr σ) P) {Q : Int32 → St → Prop} (hq : ∀ (r : Int32) (s : St), RF a0 arr s → P r (absM a0 arr s) → Q r s) : w_X12_heldAt a0 x1 x2 σ Q := by
  unfold p_X12_heldAt at hp
  unfold w_X12_heldAt
  obtain ⟨f91, hp⟩ := hp
  refine ⟨f91, ?_⟩
  exact q_X12_heldAt_5 hq f91 _ _ _ _ _ hR hp
set_option maxRecDepth 100000 in
set_option maxHeartbeats 1000000 in
theorem q_X12_isGroup {a0 : Nat} {arr : Nat → Nat} {σ : St} {x0 : Int32} (hR : RF a0 arr σ) {P : Int32 → MS → Prop} (hp : p_X12_isGroup x0 (absM a0 arr σ) P) {Q : Int32 → St → Prop} (hq : ∀ (r : Int32) (s : St), RF a0 arr s → P r (absM a0 arr s) → Q r s) : w_X12_isGroup x0 σ Q := by
  unfold p_X12_isGroup at hp
  unfold w_X12_isGroup
  refine q_X12_isIn hR hp (fun x51 s52 hR hp => ?_)
  refine ⟨hp.1, ?_⟩
  replace hp := hp.2
  exact hq _ _ hR hp
set_option maxRecDepth 100000 in
set_option maxHeartbeats 1000000 in
theorem q_X12_isInRing_23 {a0 : Nat} {arr : Nat → Nat} {P : Int32 → MS → Prop} {Q : Int32 → St → Prop} (hq : ∀ (r : Int32) (s : St), RF a0 arr s → P r (absM a0 arr s) → Q r s) {K4 : Nat → Int32 → Int32 → Int32 → St → Prop} {LK4 : Int32 → Int32 → Int32 → MS → Prop} (hK4 : ∀ (y1 : Int32) (y2 : Int32) (y3 : Int32) (y4 : St), RF a0 arr y4 → LK4 y1 y2 y3 (absM a0 arr y4) → K4 a0 y1 y2 y3 y4) : ∀ (x1 : Int32) (x3 : Int32) (xs0 : Int32) (σ : St), RF a0 arr σ → p_X12_isInRing_23 P LK4 x1 x3 xs0 (absM a0 arr σ) → w_X12_isInRing_23 Q K4 a0 x1 x3 xs0 σ := by
  intro x1 x3 xs0 σ hR hp
  unfold p_X12_isInRing_23 at hp
  unfold w_X12_isInRing_23
  refine ⟨fun c => ?_, fun c => ?_⟩
  · replace hp := hp.1 c
    exact hK4 _ _ _ _ hR hp
  · replace hp := hp.2 c
    exact hq _ _ hR hp
set_option maxRecDepth 100000 in
set_option maxHeartbeats 1000000 in
theorem q_X12_isInRing_4 {a0 : Nat} {arr : Nat → Nat} {P : Int32 → MS → Prop} {Q : Int32 → St → Prop} (hq : ∀ (r : Int32) (s : St), RF a0 arr s → P r (absM a0 arr s) → Q r s) : ∀ (f : Nat) (x1 : Int32) (x2 : Int32) (x3 : Int32) (σ : St), RF a0 arr σ → p_X12_isInRing_4 P  f x1 x2 x3 (absM a0 arr σ) → w_X12_isInRing_4 Q  f a0 x1 x2 x3 σ := by
  intro f
  induction f with
  | zero => intro x1 x2 x3 σ hR hp; exact hp.elim
  | succ f ih =>
    intro x1 x2 x3 σ hR hp
    unfold p_X12_isInRing_4 at hp
    unfold w_X12_isInRing_4
    refine ⟨fun c => ?_, fun c => ?_⟩
    · replace hp := hp.1 c
      exact hq _ _ hR hp
    · replace hp := hp.2 c
      refine ⟨fun c => ?_, fun c => ?_⟩
      · replace hp := hp.1 c
        refine q_X12_nextOf hR hp (fun x53 s54 hR hp => ?_)
        exact q_X12_isInRing_23 hq ih _ _ _ _ hR hp
      · replace hp := hp.2 c
        exact q_X12_isInRing_23 hq ih _ _ _ _ hR hp
set_option maxRecDepth 100000 in
set_option maxHeartbeats 1000000 in
theorem q_X12_isInRing {a0 : Nat} {arr : Nat → Nat} {σ : St} {x1 : Int32} (hR : RF a0 arr σ) {P : Int32 → MS → Prop} (hp : p_X12_isInRing x1 (absM a0 arr σ) P) {Q : Int32 → St → Prop} (hq : ∀ (r : Int32) (s : St), RF a0 arr s → P r (absM a0 arr s) → Q r s) : w_X12_isInRing a0 x1 σ Q := by
  unfold p_X12_isInRing at hp
  unfold w_X12_isInRing
  obtain ⟨f56, hp⟩ := hp
  refine ⟨f56, ?_⟩
  exact q_X12_isInRing_4 hq f56 _ _ _ _ hR hp
set_option maxRecDepth 100000 in
set_option maxHeartbeats 1000000 in
theorem q_X12_isItem {a0 : Nat} {arr : Nat → Nat} {σ : St} {x0 : Int32} (hR : RF a0 arr σ) {P : Int32 → MS → Prop} (hp : p_X12_isItem x0 (absM a0 arr σ) P) {Q : Int32 → St → Prop} (hq : ∀ (r : Int32) (s : St), RF a0 arr s → P r (absM a0 arr s) → Q r s) : w_X12_isItem x0 σ Q := by
  unfold p_X12_isItem at hp
  unfold w_X12_isItem
  refine q_X12_isIn hR hp (fun x51 s52 hR hp => ?_)
  refine ⟨hp.1, ?_⟩
  replace hp := hp.2
  exact hq _ _ hR hp
set_option maxRecDepth 100000 in
set_option maxHeartbeats 1000000 in
theorem q_X12_isLot {a0 : Nat} {arr : Nat → Nat} {σ : St} {x1 : Int32} (hR : RF a0 arr σ) {P : Int32 → MS → Prop} (hp : p_X12_isLot x1 (absM a0 arr σ) P) {Q : Int32 → St → Prop} (hq : ∀ (r : Int32) (s : St), RF a0 arr s → P r (absM a0 arr s) → Q r s) : w_X12_isLot a0 x1 σ Q := by
  unfold p_X12_isLot at hp
  unfold w_X12_isLot
  refine q_X12_isIn hR hp (fun x51 s52 hR hp => ?_)
  refine ⟨hp.1, ?_⟩
  replace hp := hp.2
  exact hq _ _ hR hp
set_option maxRecDepth 100000 in
set_option maxHeartbeats 1000000 in
theorem q_X12_isNotice {a0 : Nat} {arr : Nat → Nat} {σ : St} {x1 : Int32} (hR : RF a0 arr σ) {P : Int32 → MS → Prop} (hp : p_X12_isNotice x1 (absM a0 arr σ) P) {Q : Int32 → St → Prop} (hq : ∀ (r : Int32) (s : St), RF a0 arr s → P r (absM a0 arr s) → Q r s) : w_X12_isNotice a0 x1 σ Q := by
  unfold p_X12_isNotice at hp
  unfold w_X12_isNotice
  refine q_X12_isIn hR hp (fun x51 s52 hR hp => ?_)
  refine ⟨hp.1, ?_⟩
  replace hp := hp.2
  exact hq _ _ hR hp
set_option maxRecDepth 100000 in
set_option maxHeartbeats 1000000 in
theorem q_X12_isOrder {a0 : Nat} {arr : Nat → Nat} {σ : St} {x1 : Int32} (hR : RF a0 arr σ) {P : Int32 → MS → Prop} (hp : p_X12_isOrder x1 (absM a0 arr σ) P) {Q : Int32 → St → Prop} (hq : ∀ (r : Int32) (s : St), RF a0 arr s → P r (absM a0 arr s) → Q r s) : w_X12_isOrder a0 x1 σ Q := by
  unfold p_X12_isOrder at hp
  unfold w_X12_isOrder
  refine q_X12_isIn hR hp (fun x51 s52 hR hp => ?_)
  refine ⟨hp.1, ?_⟩
  replace hp := hp.2
  exact hq _ _ hR hp
set_option maxRecDepth 100000 in
set_option maxHeartbeats 1000000 in
theorem q_X12_isRobot {a0 : Nat} {arr : Nat → Nat} {σ : St} {x0 : Int32} (hR : RF a0 arr σ) {P : Int32 → MS → Prop} (hp : p_X12_isRobot x0 (absM a0 arr σ) P) {Q : Int32 → St → Prop} (hq : ∀ (r : Int32) (s : St), RF a0 arr s → P r (absM a0 arr s) → Q r s) : w_X12_isRobot x0 σ Q := by
  unfold p_X12_isRobot at hp
  unfold w_X12_isRobot
  refine q_X12_isIn hR hp (fun x51 s52 hR hp => ?_)
  refine ⟨hp.1, ?_⟩
  replace hp := hp.2
  exact hq _ _ hR hp
set_option maxRecDepth 100000 in
set_option maxHeartbeats 1000000 in
theorem q_X12_isSlot {a0 : Nat} {arr : Nat → Nat} {σ : St} {x0 : Int32} (hR : RF a0 arr σ) {P : Int32 → MS → Prop} (hp : p_X12_isSlot x0 (absM a0 arr σ) P) {Q : Int32 → St → Prop} (hq : ∀ (r : Int32) (s : St), RF a0 arr s → P r (absM a0 arr s) → Q r s) : w_X12_isSlot x0 σ Q := by
  unfold p_X12_isSlot at hp
  unfold w_X12_isSlot
  refine q_X12_isIn hR hp (fun x51 s52 hR hp => ?_)
  refine ⟨hp.1, ?_⟩
  replace hp := hp.2
  exact hq _ _ hR hp
set_option maxRecDepth 100000 in
set_option maxHeartbeats 1000000 in
theorem q_X12_isTask {a0 : Nat} {arr : Nat → Nat} {σ : St} {x1 : Int32} (hR : RF a0 arr σ) {P : Int32 → MS → Prop} (hp : p_X12_isTask x1 (absM a0 arr σ) P) {Q : Int32 → St → Prop} (hq : ∀ (r : Int32) (s : St), RF a0 arr s → P r (absM a0 arr s) → Q r s) : w_X12_isTask a0 x1 σ Q := by
  unfold p_X12_isTask at hp
  unfold w_X12_isTask
  refine q_X12_isIn hR hp (fun x51 s52 hR hp => ?_)
  refine ⟨hp.1, ?_⟩
  replace hp := hp.2
  exact hq _ _ hR hp
set_option maxRecDepth 100000 in
set_option maxHeartbeats 1000000 in
theorem q_X12_keeps_31 {a0 : Nat} {arr : Nat → Nat} {P : Int32 → MS → Prop} {Q : Int32 → St → Prop} (hq : ∀ (r : Int32) (s : St), RF a0 arr s → P r (absM a0 arr s) → Q r s) : ∀ (x1 : Int32) (σ : St), RF a0 arr σ → p_X12_keeps_31 P  x1 (absM a0 arr σ) → w_X12_keeps_31 Q  a0 x1 σ := by
  intro x1 σ hR hp
  unfold p_X12_keeps_31 at hp
  unfold w_X12_keeps_31
  intro o64 ho64
  rw [hR.ref 51 (by first | decide | assumption)] at ho64
  subst ho64
  refine ⟨arr 51, rfl, ?_⟩
  refine ⟨by rw [hR.len 51 (by first | decide | assumption)]; exact hp.1, ?_⟩
  replace hp := hp.2
  exact hq _ _ hR hp
set_option maxRecDepth 100000 in
set_option maxHeartbeats 1000000 in
theorem q_X12_keeps {a0 : Nat} {arr : Nat → Nat} {σ : St} {x1 : Int32} {x2 : Int32} (hR : RF a0 arr σ) {P : Int32 → MS → Prop} (hp : p_X12_keeps x1 x2 (absM a0 arr σ) P) {Q : Int32 → St → Prop} (hq : ∀ (r : Int32) (s : St), RF a0 arr s → P r (absM a0 arr s) → Q r s) : w_X12_keeps a0 x1 x2 σ Q := by
  unfold p_X12_keeps at hp
  unfold w_X12_keeps
  intro o51 ho51
  rw [hR.ref 51 (by first | decide | assumption)] at ho51
  subst ho51
  intro o52 ho52
  rw [hR.ref 51 (by first | decide | assumption)] at ho52
  subst ho52
  refine ⟨arr 51, rfl, ?_⟩
  refine ⟨by rw [hR.len 51 (by first | decide | assumption)]; exact hp.1, ?_⟩
  replace hp := hp.2
  refine q_X12_less hR hp (fun x55 s56 hR hp => ?_)
  refine ⟨arr 51, rfl, ?_⟩
  refine ⟨by rw [hR.len 51 (by first | decide | assumption)]; exact hp.1, ?_⟩
  replace hp := hp.2
  intro s59 hs59
  have h2 := abs_setA hR 51 (by first | decide | assumption) hs59
  replace hR := hR.setA hs59
  replace hp := hp _ h2
  clear h2 hs59
  intro o60 ho60
  rw [hR.ref 51 (by first | decide | assumption)] at ho60
  subst ho60
  refine ⟨arr 51, rfl, ?_⟩
  refine ⟨by rw [hR.len 51 (by first | decide | assumption)]; exact hp.1, ?_⟩
  replace hp := hp.2
  refine ⟨fun c => ?_, fun c => ?_⟩
  · replace hp := hp.1 c
    exact q_X12_keeps_31 hq _ _ hR hp
  · replace hp := hp.2 c
    refine q_X12_ends hR hp (fun s68 hR hp => ?_)
    exact q_X12_keeps_31 hq _ _ hR hp
set_option maxRecDepth 100000 in
set_option maxHeartbeats 1000000 in
theorem q_X12_makesPicks_70 {a0 : Nat} {arr : Nat → Nat} {P : MS → Prop} {Q : St → Prop} (hq : ∀ (s : St), RF a0 arr s → P (absM a0 arr s) → Q s) {K3 : Nat → Int32 → Int32 → Int32 → Int32 → St → Prop} {LK3 : Int32 → Int32 → Int32 → Int32 → MS → Prop} (hK3 : ∀ (y1 : Int32) (y2 : Int32) (y3 : Int32) (y4 : Int32) (y5 : St), RF a0 arr y5 → LK3 y1 y2 y3 y4 (absM a0 arr y5) → K3 a0 y1 y2 y3 y4 y5) {K13 : Nat → Int32 → Int32 → Int32 → Int32 → Int32 → St → Prop} {LK13 : Int32 → Int32 → Int32 → Int32 → Int32 → MS → Prop} (hK13 : ∀ (y1 : Int32) (y2 : Int32) (y3 : Int32) (y4 : Int32) (y5 : Int32) (y6 : St), RF a0 arr y6 → LK13 y1 y2 y3 y4 y5 (absM a0 arr y6) → K13 a0 y1 y2 y3 y4 y5 y6) : ∀ (x1 : Int32) (x2 : Int32) (x3 : Int32) (x4 : Int32) (x5 : Int32) (xs0 : Int32) (σ : St), RF a0 arr σ → p_X12_makesPicks_70 P LK3 LK13 x1 x2 x3 x4 x5 xs0 (absM a0 arr σ) → w_X12_makesPicks_70 Q K3 K13 a0 x1 x2 x3 x4 x5 xs0 σ := by
  intro x1 x2 x3 x4 x5 xs0 σ hR hp
  unfold p_X12_makesPicks_70 at hp
  unfold w_X12_makesPicks_70
  refine ⟨fun c => ?_, fun c => ?_⟩
  · replace hp := hp.1 c
    exact hK13 _ _ _ _ _ _ hR hp
  · replace hp := hp.2 c
    refine q_X12_isFor hR hp (fun x58 s59 hR hp => ?_)
    refine ⟨fun c => ?_, fun c => ?_⟩
    · replace hp := hp.1 c
      exact hK13 _ _ _ _ _ _ hR hp
    · replace hp := hp.2 c
      intro o61 ho61
      rw [hR.ref 42 (by first | decide | assumption)] at ho61
      subst ho61
      refine ⟨arr 42, rfl, ?_⟩
      refine ⟨by rw [hR.len 42 (by first | decide | assumption)]; exact hp.1, ?_⟩
      replace hp := hp.2
      intro o64 ho64
      rw [hR.ref 40 (by first | decide | assumption)] at ho64
      subst ho64
      refine ⟨arr 40, rfl, ?_⟩
      refine ⟨by rw [hR.len 40 (by first | decide | assumption)]; exact hp.1, ?_⟩
      replace hp := hp.2
      intro o67 ho67
      rw [hR.ref 43 (by first | decide | assumption)] at ho67
      subst ho67
      refine ⟨arr 43, rfl, ?_⟩
      refine ⟨by rw [hR.len 43 (by first | decide | assumption)]; exact hp.1, ?_⟩
      replace hp := hp.2
      refine q_X12_makes hR hp (fun x70 s71 hR hp => ?_)
      intro o72 ho72
      rw [hR.ref 44 (by first | decide | assumption)] at ho72
      subst ho72
      refine ⟨arr 44, rfl, ?_⟩
      refine ⟨by rw [hR.len 44 (by first | decide | assumption)]; exact hp.1, ?_⟩
      replace hp := hp.2
      intro s75 hs75
      have h2 := abs_setA hR 44 (by first | decide | assumption) hs75
      replace hR := hR.setA hs75
      replace hp := hp _ h2
      clear h2 hs75
      refine q_X12_gives hR hp (fun s77 hR hp => ?_)
      exact hK13 _ _ _ _ _ _ hR hp
set_option maxRecDepth 100000 in
set_option maxHeartbeats 1000000 in
theorem q_X12_makesPicks_69 {a0 : Nat} {arr : Nat → Nat} {P : MS → Prop} {Q : St → Prop} (hq : ∀ (s : St), RF a0 arr s → P (absM a0 arr s) → Q s) {K3 : Nat → Int32 → Int32 → Int32 → Int32 → St → Prop} {LK3 : Int32 → Int32 → Int32 → Int32 → MS → Prop} (hK3 : ∀ (y1 : Int32) (y2 : Int32) (y3 : Int32) (y4 : Int32) (y5 : St), RF a0 arr y5 → LK3 y1 y2 y3 y4 (absM a0 arr y5) → K3 a0 y1 y2 y3 y4 y5) {K13 : Nat → Int32 → Int32 → Int32 → Int32 → Int32 → St → Prop} {LK13 : Int32 → Int32 → Int32 → Int32 → Int32 → MS → Prop} (hK13 : ∀ (y1 : Int32) (y2 : Int32) (y3 : Int32) (y4 : Int32) (y5 : Int32) (y6 : St), RF a0 arr y6 → LK13 y1 y2 y3 y4 y5 (absM a0 arr y6) → K13 a0 y1 y2 y3 y4 y5 y6) : ∀ (x1 : Int32) (x2 : Int32) (x3 : Int32) (x4 : Int32) (x5 : Int32) (σ : St), RF a0 arr σ → p_X12_makesPicks_69 P LK3 LK13 x1 x2 x3 x4 x5 (absM a0 arr σ) → w_X12_makesPicks_69 Q K3 K13 a0 x1 x2 x3 x4 x5 σ := by
  intro x1 x2 x3 x4 x5 σ hR hp
  unfold p_X12_makesPicks_69 at hp
  unfold w_X12_makesPicks_69
  exact q_X12_makesPicks_70 hq hK3 hK13 _ _ _ _ _ _ _ hR hp
set_option maxRecDepth 100000 in
set_option maxHeartbeats 1000000 in
theorem q_X12_makesPicks_13 {a0 : Nat} {arr : Nat → Nat} {P : MS → Prop} {Q : St → Prop} (hq : ∀ (s : St), RF a0 arr s → P (absM a0 arr s) → Q s) {K3 : Nat → Int32 → Int32 → Int32 → Int32 → St → Prop} {LK3 : Int32 → Int32 → Int32 → Int32 → MS → Prop} (hK3 : ∀ (y1 : Int32) (y2 : Int32) (y3 : Int32) (y4 : Int32) (y5 : St), RF a0 arr y5 → LK3 y1 y2 y3 y4 (absM a0 arr y5) → K3 a0 y1 y2 y3 y4 y5) : ∀ (f : Nat) (x1 : Int32) (x2 : Int32) (x3 : Int32) (x4 : Int32) (x5 : Int32) (σ : St), RF a0 arr σ → p_X12_makesPicks_13 P LK3 f x1 x2 x3 x4 x5 (absM a0 arr σ) → w_X12_makesPicks_13 Q K3 f a0 x1 x2 x3 x4 x5 σ := by
  intro f
  induction f with
  | zero => intro x1 x2 x3 x4 x5 σ hR hp; exact hp.elim
  | succ f ih =>
    intro x1 x2 x3 x4 x5 σ hR hp
    unfold p_X12_makesPicks_13 at hp
    unfold w_X12_makesPicks_13
    refine ⟨fun c => ?_, fun c => ?_⟩
    · replace hp := hp.1 c
      exact hK3 _ _ _ _ _ hR hp
    · replace hp := hp.2 c
      intro o53 ho53
      rw [hR.ref 41 (by first | decide | assumption)] at ho53
      subst ho53
      refine ⟨arr 41, rfl, ?_⟩
      refine ⟨by rw [hR.len 41 (by first | decide | assumption)]; exact hp.1, ?_⟩
      replace hp := hp.2
      refine ⟨fun c => ?_, fun c => ?_⟩
      · replace hp := hp.1 c
        exact q_X12_makesPicks_69 hq hK3 ih _ _ _ _ _ _ hR hp
      · replace hp := hp.2 c
        intro o78 ho78
        rw [hR.ref 42 (by first | decide | assumption)] at ho78
        subst ho78
        refine ⟨arr 42, rfl, ?_⟩
        refine ⟨by rw [hR.len 42 (by first | decide | assumption)]; exact hp.1, ?_⟩
        replace hp := hp.2
        refine ⟨fun c => ?_, fun c => ?_⟩
        · replace hp := hp.1 c
          exact q_X12_makesPicks_69 hq hK3 ih _ _ _ _ _ _ hR hp
        · replace hp := hp.2 c
          intro o82 ho82
          rw [hR.ref 40 (by first | decide | assumption)] at ho82
          subst ho82
          refine ⟨arr 40, rfl, ?_⟩
          refine ⟨by rw [hR.len 40 (by first | decide | assumption)]; exact hp.1, ?_⟩
          replace hp := hp.2
          refine ⟨fun c => ?_, fun c => ?_⟩
          · replace hp := hp.1 c
            exact q_X12_makesPicks_69 hq hK3 ih _ _ _ _ _ _ hR hp
          · replace hp := hp.2 c
            exact q_X12_makesPicks_70 hq hK3 ih _ _ _ _ _ _ _ hR hp
set_option maxRecDepth 100000 in
set_option maxHeartbeats 1000000 in
theorem q_X12_makesPicks_3 {a0 : Nat} {arr : Nat → Nat} {P : MS → Prop} {Q : St → Prop} (hq : ∀ (s : St), RF a0 arr s → P (absM a0 arr s) → Q s) : ∀ (f : Nat) (x1 : Int32) (x2 : Int32) (x3 : Int32) (x4 : Int32) (σ : St), RF a0 arr σ → p_X12_makesPicks_3 P  f x1 x2 x3 x4 (absM a0 arr σ) → w_X12_makesPicks_3 Q  f a0 x1 x2 x3 x4 σ := by
  intro f
  induction f with
  | zero => intro x1 x2 x3 x4 σ hR hp; exact hp.elim
  | succ f ih =>
    intro x1 x2 x3 x4 σ hR hp
    unfold p_X12_makesPicks_3 at hp
    unfold w_X12_makesPicks_3
    refine ⟨fun c => ?_, fun c => ?_⟩
    · replace hp := hp.1 c
      exact hq _ hR hp
    · replace hp := hp.2 c
      obtain ⟨f86, hp⟩ := hp
      refine ⟨f86, ?_⟩
      exact q_X12_makesPicks_13 hq ih f86 _ _ _ _ _ _ hR hp
set_option maxRecDepth 100000 in
set_option maxHeartbeats 1000000 in
theorem q_X12_makesPicks {a0 : Nat} {arr : Nat → Nat} {σ : St} {x1 : Int32} {x2 : Int32} {x3 : Int32} (hR : RF a0 arr σ) {P : MS → Prop} (hp : p_X12_makesPicks x1 x2 x3 (absM a0 arr σ) P) {Q : St → Prop} (hq : ∀ (s : St), RF a0 arr s → P (absM a0 arr s) → Q s) : w_X12_makesPicks a0 x1 x2 x3 σ Q := by
  unfold p_X12_makesPicks at hp
  unfold w_X12_makesPicks
  obtain ⟨f87, hp⟩ := hp
  refine ⟨f87, ?_⟩
  exact q_X12_makesPicks_3 hq f87 _ _ _ _ _ hR hp
set_option maxRecDepth 100000 in
set_option maxHeartbeats 1000000 in
theorem q_X12_moves {a0 : Nat} {arr : Nat → Nat} {σ : St} {x1 : Int32} {x2 : Int32} (hR : RF a0 arr σ) {P : MS → Prop} (hp : p_X12_moves x1 x2 (absM a0 arr σ) P) {Q : St → Prop} (hq : ∀ (s : St), RF a0 arr s → P (absM a0 arr s) → Q s) : w_X12_moves a0 x1 x2 σ Q := by
  unfold p_X12_moves at hp
  unfold w_X12_moves
  intro o51 ho51
  rw [hR.ref 48 (by first | decide | assumption)] at ho51
  subst ho51
  refine ⟨arr 48, rfl, ?_⟩
  refine ⟨by rw [hR.len 48 (by first | decide | assumption)]; exact hp.1, ?_⟩
  replace hp := hp.2
  intro o54 ho54
  rw [hR.ref 47 (by first | decide | assumption)] at ho54
  subst ho54
  refine ⟨arr 47, rfl, ?_⟩
  refine ⟨by rw [hR.len 47 (by first | decide | assumption)]; exact hp.1, ?_⟩
  replace hp := hp.2
  intro o57 ho57
  rw [hR.ref 51 (by first | decide | assumption)] at ho57
  subst ho57
  refine ⟨arr 51, rfl, ?_⟩
  refine ⟨by rw [hR.len 51 (by first | decide | assumption)]; exact hp.1, ?_⟩
  replace hp := hp.2
  refine q_X12_books hR hp (fun s61 hR hp => ?_)
  intro o62 ho62
  rw [hR.ref 49 (by first | decide | assumption)] at ho62
  subst ho62
  refine ⟨arr 49, rfl, ?_⟩
  refine ⟨by rw [hR.len 49 (by first | decide | assumption)]; exact hp.1, ?_⟩
  replace hp := hp.2
  intro o65 ho65
  rw [hR.ref 47 (by first | decide | assumption)] at ho65
  subst ho65
  refine ⟨arr 47, rfl, ?_⟩
  refine ⟨by rw [hR.len 47 (by first | decide | assumption)]; exact hp.1, ?_⟩
  replace hp := hp.2
  intro o68 ho68
  rw [hR.ref 51 (by first | decide | assumption)] at ho68
  subst ho68
  refine ⟨arr 51, rfl, ?_⟩
  refine ⟨by rw [hR.len 51 (by first | decide | assumption)]; exact hp.1, ?_⟩
  replace hp := hp.2
  refine q_X12_books hR hp (fun s72 hR hp => ?_)
  intro s73 hs73
  have h2 := abs_setI (arr := arr) 2 (by first | decide | assumption) hs73
  replace hR := hR.setI hs73
  replace hp := hp _ h2
  clear h2 hs73
  refine q_X12_ends hR hp (fun s75 hR hp => ?_)
  refine q_X12_tidies hR hp (fun s77 hR hp => ?_)
  exact hq _ hR hp
set_option maxRecDepth 100000 in
set_option maxHeartbeats 1000000 in
theorem q_X12_order_40 {a0 : Nat} {arr : Nat → Nat} {P : Int32 → MS → Prop} {Q : Int32 → St → Prop} (hq : ∀ (r : Int32) (s : St), RF a0 arr s → P r (absM a0 arr s) → Q r s) : ∀ (x1 : Int32) (x2 : Int32) (x3 : Int32) (xs1 : Int32) (σ : St), RF a0 arr σ → p_X12_order_40 P  x1 x2 x3 xs1 (absM a0 arr σ) → w_X12_order_40 Q  a0 x1 x2 x3 a0 xs1 σ := by
  intro x1 x2 x3 xs1 σ hR hp
  unfold p_X12_order_40 at hp
  unfold w_X12_order_40
  refine q_X12_holds hR hp (fun x54 s55 hR hp => ?_)
  refine ⟨fun c => ?_, fun c => ?_⟩
  · replace hp := hp.1 c
    intro o57 ho57
    rw [hR.ref 28 (by first | decide | assumption)] at ho57
    subst ho57
    refine ⟨arr 28, rfl, ?_⟩
    refine ⟨by rw [hR.len 28 (by first | decide | assumption)]; exact hp.1, ?_⟩
    replace hp := hp.2
    intro s60 hs60
    have h2 := abs_setA hR 28 (by first | decide | assumption) hs60
    replace hR := hR.setA hs60
    replace hp := hp _ h2
    clear h2 hs60
    intro o61 ho61
    rw [hR.ref 29 (by first | decide | assumption)] at ho61
    subst ho61
    refine ⟨arr 29, rfl, ?_⟩
    refine ⟨by rw [hR.len 29 (by first | decide | assumption)]; exact hp.1, ?_⟩
    replace hp := hp.2
    refine ⟨hp.1, ?_⟩
    replace hp := hp.2
    intro s64 hs64
    have h2 := abs_setA hR 29 (by first | decide | assumption) hs64
    replace hR := hR.setA hs64
    replace hp := hp _ h2
    clear h2 hs64
    intro o66 ho66
    rw [hR.ref 30 (by first | decide | assumption)] at ho66
    subst ho66
    refine ⟨arr 30, rfl, ?_⟩
    refine ⟨by rw [hR.len 30 (by first | decide | assumption)]; exact hp.1, ?_⟩
    replace hp := hp.2
    intro s69 hs69
    have h2 := abs_setA hR 30 (by first | decide | assumption) hs69
    replace hR := hR.setA hs69
    replace hp := hp _ h2
    clear h2 hs69
    intro s70 hs70
    have h2 := abs_setI (arr := arr) 27 (by first | decide | assumption) hs70
    replace hR := hR.setI hs70
    replace hp := hp _ h2
    clear h2 hs70
    exact hq _ _ hR hp
  · replace hp := hp.2 c
    exact hq _ _ hR hp
set_option maxRecDepth 100000 in
set_option maxHeartbeats 1000000 in
theorem q_X12_order {a0 : Nat} {arr : Nat → Nat} {σ : St} {x1 : Int32} {x2 : Int32} {x3 : Int32} (hR : RF a0 arr σ) {P : Int32 → MS → Prop} (hp : p_X12_order x1 x2 x3 (absM a0 arr σ) P) {Q : Int32 → St → Prop} (hq : ∀ (r : Int32) (s : St), RF a0 arr s → P r (absM a0 arr s) → Q r s) : w_X12_order a0 x1 x2 x3 σ Q := by
  unfold p_X12_order at hp
  unfold w_X12_order
  refine q_X12_isIn hR hp (fun x51 s52 hR hp => ?_)
  refine ⟨fun c => ?_, fun c => ?_⟩
  · replace hp := hp.1 c
    exact q_X12_order_40 hq _ _ _ _ _ hR hp
  · replace hp := hp.2 c
    refine q_X12_isIn hR hp (fun x71 s72 hR hp => ?_)
    refine ⟨fun c => ?_, fun c => ?_⟩
    · replace hp := hp.1 c
      refine ⟨fun c => ?_, fun c => ?_⟩
      · replace hp := hp.1 c
        exact q_X12_order_40 hq _ _ _ _ _ hR hp
      · replace hp := hp.2 c
        exact q_X12_order_40 hq _ _ _ _ _ hR hp
    · replace hp := hp.2 c
      exact q_X12_order_40 hq _ _ _ _ _ hR hp
set_option maxRecDepth 100000 in
set_option maxHeartbeats 1000000 in
theorem q_X12_packs_144 {a0 : Nat} {arr : Nat → Nat} {P : Int32 → MS → Prop} {Q : Int32 → St → Prop} (hq : ∀ (r : Int32) (s : St), RF a0 arr s → P r (absM a0 arr s) → Q r s) {K33 : Nat → Int32 → Int32 → St → Prop} {LK33 : Int32 → Int32 → MS → Prop} (hK33 : ∀ (y1 : Int32) (y2 : Int32) (y3 : St), RF a0 arr y3 → LK33 y1 y2 (absM a0 arr y3) → K33 a0 y1 y2 y3) {K48 : Nat → Int32 → Int32 → Int32 → Int32 → St → Prop} {LK48 : Int32 → Int32 → Int32 → Int32 → MS → Prop} (hK48 : ∀ (y1 : Int32) (y2 : Int32) (y3 : Int32) (y4 : Int32) (y5 : St), RF a0 arr y5 → LK48 y1 y2 y3 y4 (absM a0 arr y5) → K48 a0 y1 y2 y3 y4 y5) : ∀ (x2 : Int32) (x3 : Int32) (x4 : Int32) (x5 : Int32) (x6 : Int32) (σ : St), RF a0 arr σ → p_X12_packs_144 P LK33 LK48 x2 x3 x4 x5 x6 (absM a0 arr σ) → w_X12_packs_144 Q K33 K48 a0 x2 x3 x4 x5 x6 σ := by
  intro x2 x3 x4 x5 x6 σ hR hp
  unfold p_X12_packs_144 at hp
  unfold w_X12_packs_144
  intro o64 ho64
  rw [hR.ref 61 (by first | decide | assumption)] at ho64
  subst ho64
  refine ⟨arr 61, rfl, ?_⟩
  refine ⟨by rw [hR.len 61 (by first | decide | assumption)]; exact hp.1, ?_⟩
  replace hp := hp.2
  intro o67 ho67
  rw [hR.ref 10 (by first | decide | assumption)] at ho67
  subst ho67
  refine ⟨arr 10, rfl, ?_⟩
  refine ⟨by rw [hR.len 10 (by first | decide | assumption)]; exact hp.1, ?_⟩
  replace hp := hp.2
  refine ⟨by rw [hR.len 61 (by first | decide | assumption)]; exact hp.1, ?_⟩
  replace hp := hp.2
  intro s71 hs71
  have h2 := abs_setA hR 61 (by first | decide | assumption) hs71
  replace hR := hR.setA hs71
  replace hp := hp _ h2
  clear h2 hs71
  intro o72 ho72
  rw [hR.ref 62 (by first | decide | assumption)] at ho72
  subst ho72
  refine ⟨arr 62, rfl, ?_⟩
  refine ⟨by rw [hR.len 62 (by first | decide | assumption)]; exact hp.1, ?_⟩
  replace hp := hp.2
  intro o75 ho75
  rw [hR.ref 11 (by first | decide | assumption)] at ho75
  subst ho75
  refine ⟨arr 11, rfl, ?_⟩
  refine ⟨by rw [hR.len 11 (by first | decide | assumption)]; exact hp.1, ?_⟩
  replace hp := hp.2
  refine ⟨by rw [hR.len 62 (by first | decide | assumption)]; exact hp.1, ?_⟩
  replace hp := hp.2
  intro s79 hs79
  have h2 := abs_setA hR 62 (by first | decide | assumption) hs79
  replace hR := hR.setA hs79
  replace hp := hp _ h2
  clear h2 hs79
  intro o80 ho80
  rw [hR.ref 63 (by first | decide | assumption)] at ho80
  subst ho80
  refine ⟨arr 63, rfl, ?_⟩
  refine ⟨by rw [hR.len 63 (by first | decide | assumption)]; exact hp.1, ?_⟩
  replace hp := hp.2
  refine ⟨by rw [hR.len 63 (by first | decide | assumption)]; exact hp.1, ?_⟩
  replace hp := hp.2
  intro s84 hs84
  have h2 := abs_setA hR 63 (by first | decide | assumption) hs84
  replace hR := hR.setA hs84
  replace hp := hp _ h2
  clear h2 hs84
  intro o85 ho85
  rw [hR.ref 64 (by first | decide | assumption)] at ho85
  subst ho85
  refine ⟨arr 64, rfl, ?_⟩
  refine ⟨by rw [hR.len 64 (by first | decide | assumption)]; exact hp.1, ?_⟩
  replace hp := hp.2
  refine ⟨by rw [hR.len 64 (by first | decide | assumption)]; exact hp.1, ?_⟩
  replace hp := hp.2
  intro s89 hs89
  have h2 := abs_setA hR 64 (by first | decide | assumption) hs89
  replace hR := hR.setA hs89
  replace hp := hp _ h2
  clear h2 hs89
  exact hK48 _ _ _ _ _ hR hp
set_option maxRecDepth 100000 in
set_option maxHeartbeats 1000000 in
theorem q_X12_packs_103 {a0 : Nat} {arr : Nat → Nat} {P : Int32 → MS → Prop} {Q : Int32 → St → Prop} (hq : ∀ (r : Int32) (s : St), RF a0 arr s → P r (absM a0 arr s) → Q r s) {K33 : Nat → Int32 → Int32 → St → Prop} {LK33 : Int32 → Int32 → MS → Prop} (hK33 : ∀ (y1 : Int32) (y2 : Int32) (y3 : St), RF a0 arr y3 → LK33 y1 y2 (absM a0 arr y3) → K33 a0 y1 y2 y3) {K48 : Nat → Int32 → Int32 → Int32 → Int32 → St → Prop} {LK48 : Int32 → Int32 → Int32 → Int32 → MS → Prop} (hK48 : ∀ (y1 : Int32) (y2 : Int32) (y3 : Int32) (y4 : Int32) (y5 : St), RF a0 arr y5 → LK48 y1 y2 y3 y4 (absM a0 arr y5) → K48 a0 y1 y2 y3 y4 y5) : ∀ (x2 : Int32) (x3 : Int32) (x4 : Int32) (x5 : Int32) (x6 : Int32) (σ : St), RF a0 arr σ → p_X12_packs_103 P LK33 LK48 x2 x3 x4 x5 x6 (absM a0 arr σ) → w_X12_packs_103 Q K33 K48 a0 x2 x3 x4 x5 x6 σ := by
  intro x2 x3 x4 x5 x6 σ hR hp
  unfold p_X12_packs_103 at hp
  unfold w_X12_packs_103
  refine ⟨fun c => ?_, fun c => ?_⟩
  · replace hp := hp.1 c
    exact q_X12_packs_144 hq hK33 hK48 _ _ _ _ _ _ hR hp
  · replace hp := hp.2 c
    intro o90 ho90
    rw [hR.ref 61 (by first | decide | assumption)] at ho90
    subst ho90
    refine ⟨arr 61, rfl, ?_⟩
    refine ⟨by rw [hR.len 61 (by first | decide | assumption)]; exact hp.1, ?_⟩
    replace hp := hp.2
    intro s93 hs93
    have h2 := abs_setA hR 61 (by first | decide | assumption) hs93
    replace hR := hR.setA hs93
    replace hp := hp _ h2
    clear h2 hs93
    intro o94 ho94
    rw [hR.ref 62 (by first | decide | assumption)] at ho94
    subst ho94
    refine ⟨arr 62, rfl, ?_⟩
    refine ⟨by rw [hR.len 62 (by first | decide | assumption)]; exact hp.1, ?_⟩
    replace hp := hp.2
    intro s97 hs97
    have h2 := abs_setA hR 62 (by first | decide | assumption) hs97
    replace hR := hR.setA hs97
    replace hp := hp _ h2
    clear h2 hs97
    intro o98 ho98
    rw [hR.ref 63 (by first | decide | assumption)] at ho98
    subst ho98
    refine ⟨arr 63, rfl, ?_⟩
    refine ⟨by rw [hR.len 63 (by first | decide | assumption)]; exact hp.1, ?_⟩
    replace hp := hp.2
    intro s101 hs101
    have h2 := abs_setA hR 63 (by first | decide | assumption) hs101
    replace hR := hR.setA hs101
    replace hp := hp _ h2
    clear h2 hs101
    intro o102 ho102
    rw [hR.ref 64 (by first | decide | assumption)] at ho102
    subst ho102
    refine ⟨arr 64, rfl, ?_⟩
    refine ⟨by rw [hR.len 64 (by first | decide | assumption)]; exact hp.1, ?_⟩
    replace hp := hp.2
    intro s105 hs105
    have h2 := abs_setA hR 64 (by first | decide | assumption) hs105
    replace hR := hR.setA hs105
    replace hp := hp _ h2
    clear h2 hs105
    exact q_X12_packs_144 hq hK33 hK48 _ _ _ _ _ _ hR hp
set_option maxRecDepth 100000 in
set_option maxHeartbeats 1000000 in
theorem q_X12_packs_80 {a0 : Nat} {arr : Nat → Nat} {P : Int32 → MS → Prop} {Q : Int32 → St → Prop} (hq : ∀ (r : Int32) (s : St), RF a0 arr s → P r (absM a0 arr s) → Q r s) {K33 : Nat → Int32 → Int32 → St → Prop} {LK33 : Int32 → Int32 → MS → Prop} (hK33 : ∀ (y1 : Int32) (y2 : Int32) (y3 : St), RF a0 arr y3 → LK33 y1 y2 (absM a0 arr y3) → K33 a0 y1 y2 y3) {K48 : Nat → Int32 → Int32 → Int32 → Int32 → St → Prop} {LK48 : Int32 → Int32 → Int32 → Int32 → MS → Prop} (hK48 : ∀ (y1 : Int32) (y2 : Int32) (y3 : Int32) (y4 : Int32) (y5 : St), RF a0 arr y5 → LK48 y1 y2 y3 y4 (absM a0 arr y5) → K48 a0 y1 y2 y3 y4 y5) : ∀ (f : Nat) (x2 : Int32) (x3 : Int32) (x4 : Int32) (x5 : Int32) (x6 : Int32) (σ : St), RF a0 arr σ → p_X12_packs_80 P LK33 LK48 f x2 x3 x4 x5 x6 (absM a0 arr σ) → w_X12_packs_80 Q K33 K48 f a0 x2 x3 x4 x5 x6 σ := by
  intro f
  induction f with
  | zero => intro x2 x3 x4 x5 x6 σ hR hp; exact hp.elim
  | succ f ih =>
    intro x2 x3 x4 x5 x6 σ hR hp
    unfold p_X12_packs_80 at hp
    unfold w_X12_packs_80
    refine ⟨fun c => ?_, fun c => ?_⟩
    · replace hp := hp.1 c
      exact q_X12_packs_103 hq hK33 hK48 _ _ _ _ _ _ hR hp
    · replace hp := hp.2 c
      refine q_X12_fitsInto hR hp (fun x106 s107 hR hp => ?_)
      refine ⟨fun c => ?_, fun c => ?_⟩
      · replace hp := hp.1 c
        exact q_X12_packs_103 hq hK33 hK48 _ _ _ _ _ _ hR hp
      · replace hp := hp.2 c
        exact ih _ _ _ _ _ _ hR hp
set_option maxRecDepth 100000 in
set_option maxHeartbeats 1000000 in
theorem q_X12_packs_48 {a0 : Nat} {arr : Nat → Nat} {P : Int32 → MS → Prop} {Q : Int32 → St → Prop} (hq : ∀ (r : Int32) (s : St), RF a0 arr s → P r (absM a0 arr s) → Q r s) {K33 : Nat → Int32 → Int32 → St → Prop} {LK33 : Int32 → Int32 → MS → Prop} (hK33 : ∀ (y1 : Int32) (y2 : Int32) (y3 : St), RF a0 arr y3 → LK33 y1 y2 (absM a0 arr y3) → K33 a0 y1 y2 y3) : ∀ (f : Nat) (x2 : Int32) (x3 : Int32) (x4 : Int32) (x5 : Int32) (σ : St), RF a0 arr σ → p_X12_packs_48 P LK33 f x2 x3 x4 x5 (absM a0 arr σ) → w_X12_packs_48 Q K33 f a0 x2 x3 x4 x5 σ := by
  intro f
  induction f with
  | zero => intro x2 x3 x4 x5 σ hR hp; exact hp.elim
  | succ f ih =>
    intro x2 x3 x4 x5 σ hR hp
    unfold p_X12_packs_48 at hp
    unfold w_X12_packs_48
    intro o54 ho54
    rw [hR.ref 60 (by first | decide | assumption)] at ho54
    subst ho54
    refine ⟨arr 60, rfl, ?_⟩
    refine ⟨by rw [hR.len 60 (by first | decide | assumption)]; exact hp.1, ?_⟩
    replace hp := hp.2
    refine ⟨fun c => ?_, fun c => ?_⟩
    · replace hp := hp.1 c
      exact hK33 _ _ _ hR hp
    · replace hp := hp.2 c
      intro o58 ho58
      rw [hR.ref 10 (by first | decide | assumption)] at ho58
      subst ho58
      refine ⟨arr 10, rfl, ?_⟩
      refine ⟨by rw [hR.len 10 (by first | decide | assumption)]; exact hp.1, ?_⟩
      replace hp := hp.2
      refine ⟨fun c => ?_, fun c => ?_⟩
      · replace hp := hp.1 c
        exact hK33 _ _ _ hR hp
      · replace hp := hp.2 c
        obtain ⟨f109, hp⟩ := hp
        refine ⟨f109, ?_⟩
        exact q_X12_packs_80 hq hK33 ih f109 _ _ _ _ _ _ hR hp
set_option maxRecDepth 100000 in
set_option maxHeartbeats 1000000 in
theorem q_X12_packs_33 {a0 : Nat} {arr : Nat → Nat} {P : Int32 → MS → Prop} {Q : Int32 → St → Prop} (hq : ∀ (r : Int32) (s : St), RF a0 arr s → P r (absM a0 arr s) → Q r s) : ∀ (f : Nat) (x2 : Int32) (x3 : Int32) (σ : St), RF a0 arr σ → p_X12_packs_33 P  f x2 x3 (absM a0 arr σ) → w_X12_packs_33 Q  f a0 x2 x3 σ := by
  intro f
  induction f with
  | zero => intro x2 x3 σ hR hp; exact hp.elim
  | succ f ih =>
    intro x2 x3 σ hR hp
    unfold p_X12_packs_33 at hp
    unfold w_X12_packs_33
    refine ⟨fun c => ?_, fun c => ?_⟩
    · replace hp := hp.1 c
      exact hq _ _ hR hp
    · replace hp := hp.2 c
      intro x53 hx53
      replace hp := hp x53 hx53
      obtain ⟨f110, hp⟩ := hp
      refine ⟨f110, ?_⟩
      exact q_X12_packs_48 hq ih f110 _ _ _ _ _ hR hp
set_option maxRecDepth 100000 in
set_option maxHeartbeats 1000000 in
theorem q_X12_packs_4 {a0 : Nat} {arr : Nat → Nat} {P : Int32 → MS → Prop} {Q : Int32 → St → Prop} (hq : ∀ (r : Int32) (s : St), RF a0 arr s → P r (absM a0 arr s) → Q r s) : ∀ (f : Nat) (x1 : Int32) (x2 : Int32) (x3 : Int32) (σ : St), RF a0 arr σ → p_X12_packs_4 P  f x1 x2 x3 (absM a0 arr σ) → w_X12_packs_4 Q  f a0 x1 x2 x3 σ := by
  intro f
  induction f with
  | zero => intro x1 x2 x3 σ hR hp; exact hp.elim
  | succ f ih =>
    intro x1 x2 x3 σ hR hp
    unfold p_X12_packs_4 at hp
    unfold w_X12_packs_4
    refine ⟨fun c => ?_, fun c => ?_⟩
    · replace hp := hp.1 c
      obtain ⟨f111, hp⟩ := hp
      refine ⟨f111, ?_⟩
      exact q_X12_packs_33 hq f111 _ _ _ hR hp
    · replace hp := hp.2 c
      intro o112 ho112
      rw [hR.ref 60 (by first | decide | assumption)] at ho112
      subst ho112
      refine q_X12_itemIn hR hp (fun x113 s114 hR hp => ?_)
      refine ⟨arr 60, rfl, ?_⟩
      refine ⟨by rw [hR.len 60 (by first | decide | assumption)]; exact hp.1, ?_⟩
      replace hp := hp.2
      intro s117 hs117
      have h2 := abs_setA hR 60 (by first | decide | assumption) hs117
      replace hR := hR.setA hs117
      replace hp := hp _ h2
      clear h2 hs117
      exact ih _ _ _ _ hR hp
set_option maxRecDepth 100000 in
set_option maxHeartbeats 1000000 in
theorem q_X12_packs {a0 : Nat} {arr : Nat → Nat} {σ : St} {x1 : Int32} (hR : RF a0 arr σ) {P : Int32 → MS → Prop} (hp : p_X12_packs x1 (absM a0 arr σ) P) {Q : Int32 → St → Prop} (hq : ∀ (r : Int32) (s : St), RF a0 arr s → P r (absM a0 arr s) → Q r s) : w_X12_packs a0 x1 σ Q := by
  unfold p_X12_packs at hp
  unfold w_X12_packs
  obtain ⟨f118, hp⟩ := hp
  refine ⟨f118, ?_⟩
  exact q_X12_packs_4 hq f118 _ _ _ _ hR hp
set_option maxRecDepth 100000 in
set_option maxHeartbeats 1000000 in
theorem q_X12_picks_4 {a0 : Nat} {arr : Nat → Nat} {P : Int32 → MS → Prop} {Q : Int32 → St → Prop} (hq : ∀ (r : Int32) (s : St), RF a0 arr s → P r (absM a0 arr s) → Q r s) : ∀ (f : Nat) (x1 : Int32) (x2 : Int32) (x3 : Int32) (σ : St), RF a0 arr σ → p_X12_picks_4 P  f x1 x2 x3 (absM a0 arr σ) → w_X12_picks_4 Q  f a0 x1 x2 x3 σ := by
  intro f
  induction f with
  | zero => intro x1 x2 x3 σ hR hp; exact hp.elim
  | succ f ih =>
    intro x1 x2 x3 σ hR hp
    unfold p_X12_picks_4 at hp
    unfold w_X12_picks_4
    refine ⟨fun c => ?_, fun c => ?_⟩
    · replace hp := hp.1 c
      exact hq _ _ hR hp
    · replace hp := hp.2 c
      refine q_X12_isFor hR hp (fun x52 s53 hR hp => ?_)
      refine ⟨fun c => ?_, fun c => ?_⟩
      · replace hp := hp.1 c
        intro x55 hx55
        replace hp := hp x55 hx55
        exact ih _ _ _ _ hR hp
      · replace hp := hp.2 c
        intro x56 hx56
        replace hp := hp x56 hx56
        exact ih _ _ _ _ hR hp
set_option maxRecDepth 100000 in
set_option maxHeartbeats 1000000 in
theorem q_X12_picks {a0 : Nat} {arr : Nat → Nat} {σ : St} {x1 : Int32} (hR : RF a0 arr σ) {P : Int32 → MS → Prop} (hp : p_X12_picks x1 (absM a0 arr σ) P) {Q : Int32 → St → Prop} (hq : ∀ (r : Int32) (s : St), RF a0 arr s → P r (absM a0 arr s) → Q r s) : w_X12_picks a0 x1 σ Q := by
  unfold p_X12_picks at hp
  unfold w_X12_picks
  obtain ⟨f57, hp⟩ := hp
  refine ⟨f57, ?_⟩
  exact q_X12_picks_4 hq f57 _ _ _ _ hR hp
set_option maxRecDepth 100000 in
set_option maxHeartbeats 1000000 in
theorem q_X12_roomHeld_4 {a0 : Nat} {arr : Nat → Nat} {P : Int32 → MS → Prop} {Q : Int32 → St → Prop} (hq : ∀ (r : Int32) (s : St), RF a0 arr s → P r (absM a0 arr s) → Q r s) : ∀ (f : Nat) (x1 : Int32) (x2 : Int32) (x3 : Int32) (σ : St), RF a0 arr σ → p_X12_roomHeld_4 P  f x1 x2 x3 (absM a0 arr σ) → w_X12_roomHeld_4 Q  f a0 x1 x2 x3 σ := by
  intro f
  induction f with
  | zero => intro x1 x2 x3 σ hR hp; exact hp.elim
  | succ f ih =>
    intro x1 x2 x3 σ hR hp
    unfold p_X12_roomHeld_4 at hp
    unfold w_X12_roomHeld_4
    refine ⟨fun c => ?_, fun c => ?_⟩
    · replace hp := hp.1 c
      exact hq _ _ hR hp
    · replace hp := hp.2 c
      refine q_X12_isOn hR hp (fun x52 s53 hR hp => ?_)
      refine ⟨fun c => ?_, fun c => ?_⟩
      · replace hp := hp.1 c
        intro x55 hx55
        replace hp := hp x55 hx55
        exact ih _ _ _ _ hR hp
      · replace hp := hp.2 c
        intro o56 ho56
        rw [hR.ref 46 (by first | decide | assumption)] at ho56
        subst ho56
        refine ⟨arr 46, rfl, ?_⟩
        refine ⟨by rw [hR.len 46 (by first | decide | assumption)]; exact hp.1, ?_⟩
        replace hp := hp.2
        refine ⟨fun c => ?_, fun c => ?_⟩
        · replace hp := hp.1 c
          intro x60 hx60
          replace hp := hp x60 hx60
          exact ih _ _ _ _ hR hp
        · replace hp := hp.2 c
          intro o61 ho61
          rw [hR.ref 49 (by first | decide | assumption)] at ho61
          subst ho61
          refine ⟨arr 49, rfl, ?_⟩
          refine ⟨by rw [hR.len 49 (by first | decide | assumption)]; exact hp.1, ?_⟩
          replace hp := hp.2
          refine ⟨fun c => ?_, fun c => ?_⟩
          · replace hp := hp.1 c
            intro x65 hx65
            replace hp := hp x65 hx65
            exact ih _ _ _ _ hR hp
          · replace hp := hp.2 c
            intro o66 ho66
            rw [hR.ref 51 (by first | decide | assumption)] at ho66
            subst ho66
            refine ⟨arr 51, rfl, ?_⟩
            refine ⟨by rw [hR.len 51 (by first | decide | assumption)]; exact hp.1, ?_⟩
            replace hp := hp.2
            intro o69 ho69
            rw [hR.ref 10 (by first | decide | assumption)] at ho69
            subst ho69
            intro o70 ho70
            rw [hR.ref 16 (by first | decide | assumption)] at ho70
            subst ho70
            intro o71 ho71
            rw [hR.ref 47 (by first | decide | assumption)] at ho71
            subst ho71
            refine ⟨arr 47, rfl, ?_⟩
            refine ⟨by rw [hR.len 47 (by first | decide | assumption)]; exact hp.1, ?_⟩
            replace hp := hp.2
            refine ⟨arr 16, rfl, ?_⟩
            refine ⟨by rw [hR.len 16 (by first | decide | assumption)]; exact hp.1, ?_⟩
            replace hp := hp.2
            refine ⟨arr 10, rfl, ?_⟩
            refine ⟨by rw [hR.len 10 (by first | decide | assumption)]; exact hp.1, ?_⟩
            replace hp := hp.2
            intro x78 hx78
            replace hp := hp x78 hx78
            exact ih _ _ _ _ hR hp
set_option maxRecDepth 100000 in
set_option maxHeartbeats 1000000 in
theorem q_X12_roomHeld {a0 : Nat} {arr : Nat → Nat} {σ : St} {x1 : Int32} (hR : RF a0 arr σ) {P : Int32 → MS → Prop} (hp : p_X12_roomHeld x1 (absM a0 arr σ) P) {Q : Int32 → St → Prop} (hq : ∀ (r : Int32) (s : St), RF a0 arr s → P r (absM a0 arr s) → Q r s) : w_X12_roomHeld a0 x1 σ Q := by
  unfold p_X12_roomHeld at hp
  unfold w_X12_roomHeld
  obtain ⟨f79, hp⟩ := hp
  refine ⟨f79, ?_⟩
  exact q_X12_roomHeld_4 hq f79 _ _ _ _ hR hp
set_option maxRecDepth 100000 in
set_option maxHeartbeats 1000000 in
theorem q_X12_standsIn_18 {a0 : Nat} {arr : Nat → Nat} {P : Int32 → MS → Prop} {Q : Int32 → St → Prop} (hq : ∀ (r : Int32) (s : St), RF a0 arr s → P r (absM a0 arr s) → Q r s) : ∀ (f : Nat) (x1 : Int32) (x2 : Int32) (x3 : Int32) (x4 : Int32) (σ : St), RF a0 arr σ → p_X12_standsIn_18 P  f x1 x2 x3 x4 (absM a0 arr σ) → w_X12_standsIn_18 Q  f a0 x1 x2 x3 x4 σ := by
  intro f
  induction f with
  | zero => intro x1 x2 x3 x4 σ hR hp; exact hp.elim
  | succ f ih =>
    intro x1 x2 x3 x4 σ hR hp
    unfold p_X12_standsIn_18 at hp
    unfold w_X12_standsIn_18
    refine ⟨fun c => ?_, fun c => ?_⟩
    · replace hp := hp.1 c
      refine ⟨hp.1, ?_⟩
      replace hp := hp.2
      exact hq _ _ hR hp
    · replace hp := hp.2 c
      refine ⟨fun c => ?_, fun c => ?_⟩
      · replace hp := hp.1 c
        exact ih _ _ _ _ _ hR hp
      · replace hp := hp.2 c
        refine q_X12_isOn hR hp (fun x56 s57 hR hp => ?_)
        refine ⟨fun c => ?_, fun c => ?_⟩
        · replace hp := hp.1 c
          exact ih _ _ _ _ _ hR hp
        · replace hp := hp.2 c
          intro o59 ho59
          rw [hR.ref 46 (by first | decide | assumption)] at ho59
          subst ho59
          refine ⟨arr 46, rfl, ?_⟩
          refine ⟨by rw [hR.len 46 (by first | decide | assumption)]; exact hp.1, ?_⟩
          replace hp := hp.2
          refine ⟨fun c => ?_, fun c => ?_⟩
          · replace hp := hp.1 c
            exact ih _ _ _ _ _ hR hp
          · replace hp := hp.2 c
            intro o63 ho63
            rw [hR.ref 49 (by first | decide | assumption)] at ho63
            subst ho63
            refine ⟨arr 49, rfl, ?_⟩
            refine ⟨by rw [hR.len 49 (by first | decide | assumption)]; exact hp.1, ?_⟩
            replace hp := hp.2
            refine ⟨fun c => ?_, fun c => ?_⟩
            · replace hp := hp.1 c
              exact ih _ _ _ _ _ hR hp
            · replace hp := hp.2 c
              intro o67 ho67
              rw [hR.ref 16 (by first | decide | assumption)] at ho67
              subst ho67
              intro o68 ho68
              rw [hR.ref 47 (by first | decide | assumption)] at ho68
              subst ho68
              refine ⟨arr 47, rfl, ?_⟩
              refine ⟨by rw [hR.len 47 (by first | decide | assumption)]; exact hp.1, ?_⟩
              replace hp := hp.2
              refine ⟨arr 16, rfl, ?_⟩
              refine ⟨by rw [hR.len 16 (by first | decide | assumption)]; exact hp.1, ?_⟩
              replace hp := hp.2
              refine ⟨fun c => ?_, fun c => ?_⟩
              · replace hp := hp.1 c
                exact ih _ _ _ _ _ hR hp
              · replace hp := hp.2 c
                exact ih _ _ _ _ _ hR hp
set_option maxRecDepth 100000 in
set_option maxHeartbeats 1000000 in
theorem q_X12_standsIn {a0 : Nat} {arr : Nat → Nat} {σ : St} {x1 : Int32} {x2 : Int32} (hR : RF a0 arr σ) {P : Int32 → MS → Prop} (hp : p_X12_standsIn x1 x2 (absM a0 arr σ) P) {Q : Int32 → St → Prop} (hq : ∀ (r : Int32) (s : St), RF a0 arr s → P r (absM a0 arr s) → Q r s) : w_X12_standsIn a0 x1 x2 σ Q := by
  unfold p_X12_standsIn at hp
  unfold w_X12_standsIn
  refine q_X12_itemIn hR hp (fun x51 s52 hR hp => ?_)
  refine ⟨fun c => ?_, fun c => ?_⟩
  · replace hp := hp.1 c
    obtain ⟨f74, hp⟩ := hp
    refine ⟨f74, ?_⟩
    exact q_X12_standsIn_18 hq f74 _ _ _ _ _ hR hp
  · replace hp := hp.2 c
    obtain ⟨f75, hp⟩ := hp
    refine ⟨f75, ?_⟩
    exact q_X12_standsIn_18 hq f75 _ _ _ _ _ hR hp
set_option maxRecDepth 100000 in
set_option maxHeartbeats 1000000 in
theorem q_X12_bar_20 {a0 : Nat} {arr : Nat → Nat} {P : Int32 → MS → Prop} {Q : Int32 → St → Prop} (hq : ∀ (r : Int32) (s : St), RF a0 arr s → P r (absM a0 arr s) → Q r s) : ∀ (x1 : Int32) (x2 : Int32) (x3 : Int32) (xs1 : Int32) (σ : St), RF a0 arr σ → p_X12_bar_20 P  x1 x2 x3 xs1 (absM a0 arr σ) → w_X12_bar_20 Q  a0 x1 x2 x3 a0 xs1 σ := by
  intro x1 x2 x3 xs1 σ hR hp
  unfold p_X12_bar_20 at hp
  unfold w_X12_bar_20
  refine q_X12_holds hR hp (fun x54 s55 hR hp => ?_)
  refine ⟨fun c => ?_, fun c => ?_⟩
  · replace hp := hp.1 c
    intro o57 ho57
    rw [hR.ref 14 (by first | decide | assumption)] at ho57
    subst ho57
    refine ⟨arr 14, rfl, ?_⟩
    refine ⟨by rw [hR.len 14 (by first | decide | assumption)]; exact hp.1, ?_⟩
    replace hp := hp.2
    intro x60 hx60
    replace hp := hp x60 hx60
    intro o61 ho61
    rw [hR.ref 14 (by first | decide | assumption)] at ho61
    subst ho61
    refine ⟨arr 14, rfl, ?_⟩
    refine ⟨by rw [hR.len 14 (by first | decide | assumption)]; exact hp.1, ?_⟩
    replace hp := hp.2
    refine ⟨hp.1, ?_⟩
    replace hp := hp.2
    intro s64 hs64
    have h2 := abs_setA hR 14 (by first | decide | assumption) hs64
    replace hR := hR.setA hs64
    replace hp := hp _ h2
    clear h2 hs64
    intro o66 ho66
    rw [hR.ref 14 (by first | decide | assumption)] at ho66
    subst ho66
    refine ⟨arr 14, rfl, ?_⟩
    refine ⟨by rw [hR.len 14 (by first | decide | assumption)]; exact hp.1, ?_⟩
    replace hp := hp.2
    refine ⟨hp.1, ?_⟩
    replace hp := hp.2
    intro s69 hs69
    have h2 := abs_setA hR 14 (by first | decide | assumption) hs69
    replace hR := hR.setA hs69
    replace hp := hp _ h2
    clear h2 hs69
    refine ⟨hp.1, ?_⟩
    replace hp := hp.2
    exact hq _ _ hR hp
  · replace hp := hp.2 c
    exact hq _ _ hR hp
set_option maxRecDepth 100000 in
set_option maxHeartbeats 1000000 in
theorem q_X12_bar_19 {a0 : Nat} {arr : Nat → Nat} {P : Int32 → MS → Prop} {Q : Int32 → St → Prop} (hq : ∀ (r : Int32) (s : St), RF a0 arr s → P r (absM a0 arr s) → Q r s) : ∀ (x1 : Int32) (x2 : Int32) (x3 : Int32) (σ : St), RF a0 arr σ → p_X12_bar_19 P  x1 x2 x3 (absM a0 arr σ) → w_X12_bar_19 Q  a0 x1 x2 x3 a0 σ := by
  intro x1 x2 x3 σ hR hp
  unfold p_X12_bar_19 at hp
  unfold w_X12_bar_19
  exact q_X12_bar_20 hq _ _ _ _ _ hR hp
set_option maxRecDepth 100000 in
set_option maxHeartbeats 1000000 in
theorem q_X12_bar {a0 : Nat} {arr : Nat → Nat} {σ : St} {x1 : Int32} {x2 : Int32} {x3 : Int32} (hR : RF a0 arr σ) {P : Int32 → MS → Prop} (hp : p_X12_bar x1 x2 x3 (absM a0 arr σ) P) {Q : Int32 → St → Prop} (hq : ∀ (r : Int32) (s : St), RF a0 arr s → P r (absM a0 arr s) → Q r s) : w_X12_bar a0 x1 x2 x3 σ Q := by
  unfold p_X12_bar at hp
  unfold w_X12_bar
  refine q_X12_isGroup hR hp (fun x51 s52 hR hp => ?_)
  refine ⟨fun c => ?_, fun c => ?_⟩
  · replace hp := hp.1 c
    exact q_X12_bar_19 hq _ _ _ _ hR hp
  · replace hp := hp.2 c
    refine q_X12_isGroup hR hp (fun x71 s72 hR hp => ?_)
    refine ⟨fun c => ?_, fun c => ?_⟩
    · replace hp := hp.1 c
      exact q_X12_bar_19 hq _ _ _ _ hR hp
    · replace hp := hp.2 c
      exact q_X12_bar_20 hq _ _ _ _ _ hR hp
set_option maxRecDepth 100000 in
set_option maxHeartbeats 1000000 in
theorem q_X12_boxesOf {a0 : Nat} {arr : Nat → Nat} {σ : St} {x1 : Int32} (hR : RF a0 arr σ) {P : Int32 → MS → Prop} (hp : p_X12_boxesOf x1 (absM a0 arr σ) P) {Q : Int32 → St → Prop} (hq : ∀ (r : Int32) (s : St), RF a0 arr s → P r (absM a0 arr s) → Q r s) : w_X12_boxesOf a0 x1 σ Q := by
  unfold p_X12_boxesOf at hp
  unfold w_X12_boxesOf
  intro o51 ho51
  rw [hR.ref 32 (by first | decide | assumption)] at ho51
  subst ho51
  refine ⟨arr 32, rfl, ?_⟩
  refine ⟨by rw [hR.len 32 (by first | decide | assumption)]; exact hp.1, ?_⟩
  replace hp := hp.2
  refine ⟨fun c => ?_, fun c => ?_⟩
  · replace hp := hp.1 c
    refine q_X12_packs hR hp (fun x55 s56 hR hp => ?_)
    exact hq _ _ hR hp
  · replace hp := hp.2 c
    intro o57 ho57
    rw [hR.ref 35 (by first | decide | assumption)] at ho57
    subst ho57
    refine ⟨arr 35, rfl, ?_⟩
    refine ⟨by rw [hR.len 35 (by first | decide | assumption)]; exact hp.1, ?_⟩
    replace hp := hp.2
    exact hq _ _ hR hp
set_option maxRecDepth 100000 in
set_option maxHeartbeats 1000000 in
theorem q_X12_close_29 {a0 : Nat} {arr : Nat → Nat} {P : Int32 → MS → Prop} {Q : Int32 → St → Prop} (hq : ∀ (r : Int32) (s : St), RF a0 arr s → P r (absM a0 arr s) → Q r s) : ∀ (x1 : Int32) (xs1 : Int32) (σ : St), RF a0 arr σ → p_X12_close_29 P  x1 xs1 (absM a0 arr σ) → w_X12_close_29 Q  a0 x1 a0 xs1 σ := by
  intro x1 xs1 σ hR hp
  unfold p_X12_close_29 at hp
  unfold w_X12_close_29
  refine q_X12_holds hR hp (fun x58 s59 hR hp => ?_)
  refine ⟨fun c => ?_, fun c => ?_⟩
  · replace hp := hp.1 c
    intro o61 ho61
    rw [hR.ref 25 (by first | decide | assumption)] at ho61
    subst ho61
    refine ⟨arr 25, rfl, ?_⟩
    refine ⟨by rw [hR.len 25 (by first | decide | assumption)]; exact hp.1, ?_⟩
    replace hp := hp.2
    intro s64 hs64
    have h2 := abs_setA hR 25 (by first | decide | assumption) hs64
    replace hR := hR.setA hs64
    replace hp := hp _ h2
    clear h2 hs64
    refine q_X12_cameOf hR hp (fun x65 s66 hR hp => ?_)
    intro o67 ho67
    rw [hR.ref 24 (by first | decide | assumption)] at ho67
    subst ho67
    refine ⟨arr 24, rfl, ?_⟩
    refine ⟨by rw [hR.len 24 (by first | decide | assumption)]; exact hp.1, ?_⟩
    replace hp := hp.2
    exact hq _ _ hR hp
  · replace hp := hp.2 c
    exact hq _ _ hR hp
set_option maxRecDepth 100000 in
set_option maxHeartbeats 1000000 in
theorem q_X12_close {a0 : Nat} {arr : Nat → Nat} {σ : St} {x1 : Int32} (hR : RF a0 arr σ) {P : Int32 → MS → Prop} (hp : p_X12_close x1 (absM a0 arr σ) P) {Q : Int32 → St → Prop} (hq : ∀ (r : Int32) (s : St), RF a0 arr s → P r (absM a0 arr s) → Q r s) : w_X12_close a0 x1 σ Q := by
  unfold p_X12_close at hp
  unfold w_X12_close
  refine q_X12_isNotice hR hp (fun x51 s52 hR hp => ?_)
  refine ⟨fun c => ?_, fun c => ?_⟩
  · replace hp := hp.1 c
    intro o54 ho54
    rw [hR.ref 25 (by first | decide | assumption)] at ho54
    subst ho54
    refine ⟨arr 25, rfl, ?_⟩
    refine ⟨by rw [hR.len 25 (by first | decide | assumption)]; exact hp.1, ?_⟩
    replace hp := hp.2
    refine ⟨fun c => ?_, fun c => ?_⟩
    · replace hp := hp.1 c
      exact q_X12_close_29 hq _ _ _ hR hp
    · replace hp := hp.2 c
      exact q_X12_close_29 hq _ _ _ hR hp
  · replace hp := hp.2 c
    exact q_X12_close_29 hq _ _ _ hR hp
set_option maxRecDepth 100000 in
set_option maxHeartbeats 1000000 in
theorem q_X12_comeBack_64 {a0 : Nat} {arr : Nat → Nat} {P : Int32 → MS → Prop} {Q : Int32 → St → Prop} (hq : ∀ (r : Int32) (s : St), RF a0 arr s → P r (absM a0 arr s) → Q r s) : ∀ (x1 : Int32) (x2 : Int32) (x3 : Int32) (xs1 : Int32) (σ : St), RF a0 arr σ → p_X12_comeBack_64 P  x1 x2 x3 xs1 (absM a0 arr σ) → w_X12_comeBack_64 Q  a0 x1 x2 x3 a0 xs1 σ := by
  intro x1 x2 x3 xs1 σ hR hp
  unfold p_X12_comeBack_64 at hp
  unfold w_X12_comeBack_64
  refine q_X12_holds hR hp (fun x62 s63 hR hp => ?_)
  refine ⟨fun c => ?_, fun c => ?_⟩
  · replace hp := hp.1 c
    intro o65 ho65
    rw [hR.ref 33 (by first | decide | assumption)] at ho65
    subst ho65
    intro x66 hx66
    replace hp := hp x66 hx66
    refine ⟨arr 33, rfl, ?_⟩
    refine ⟨by rw [hR.len 33 (by first | decide | assumption)]; exact hp.1, ?_⟩
    replace hp := hp.2
    refine ⟨by rw [hR.len 33 (by first | decide | assumption)]; exact hp.1, ?_⟩
    replace hp := hp.2
    intro s70 hs70
    have h2 := abs_setA hR 33 (by first | decide | assumption) hs70
    replace hR := hR.setA hs70
    replace hp := hp _ h2
    clear h2 hs70
    refine q_X12_books hR hp (fun s72 hR hp => ?_)
    intro s73 hs73
    have h2 := abs_setI (arr := arr) 2 (by first | decide | assumption) hs73
    replace hR := hR.setI hs73
    replace hp := hp _ h2
    clear h2 hs73
    intro o74 ho74
    rw [hR.ref 19 (by first | decide | assumption)] at ho74
    subst ho74
    refine ⟨arr 19, rfl, ?_⟩
    refine ⟨by rw [hR.len 19 (by first | decide | assumption)]; exact hp.1, ?_⟩
    replace hp := hp.2
    exact hq _ _ hR hp
  · replace hp := hp.2 c
    exact hq _ _ hR hp
set_option maxRecDepth 100000 in
set_option maxHeartbeats 1000000 in
theorem q_X12_comeBack_21 {a0 : Nat} {arr : Nat → Nat} {P : Int32 → MS → Prop} {Q : Int32 → St → Prop} (hq : ∀ (r : Int32) (s : St), RF a0 arr s → P r (absM a0 arr s) → Q r s) : ∀ (x1 : Int32) (x2 : Int32) (x3 : Int32) (xs0 : Int32) (σ : St), RF a0 arr σ → p_X12_comeBack_21 P  x1 x2 x3 xs0 (absM a0 arr σ) → w_X12_comeBack_21 Q  a0 x1 x2 x3 xs0 σ := by
  intro x1 x2 x3 xs0 σ hR hp
  unfold p_X12_comeBack_21 at hp
  unfold w_X12_comeBack_21
  refine ⟨fun c => ?_, fun c => ?_⟩
  · replace hp := hp.1 c
    refine q_X12_arePieces hR hp (fun x55 s56 hR hp => ?_)
    refine ⟨fun c => ?_, fun c => ?_⟩
    · replace hp := hp.1 c
      intro o58 ho58
      rw [hR.ref 33 (by first | decide | assumption)] at ho58
      subst ho58
      refine ⟨arr 33, rfl, ?_⟩
      refine ⟨by rw [hR.len 33 (by first | decide | assumption)]; exact hp.1, ?_⟩
      replace hp := hp.2
      refine ⟨fun c => ?_, fun c => ?_⟩
      · replace hp := hp.1 c
        exact q_X12_comeBack_64 hq _ _ _ _ _ hR hp
      · replace hp := hp.2 c
        exact q_X12_comeBack_64 hq _ _ _ _ _ hR hp
    · replace hp := hp.2 c
      exact q_X12_comeBack_64 hq _ _ _ _ _ hR hp
  · replace hp := hp.2 c
    exact q_X12_comeBack_64 hq _ _ _ _ _ hR hp
set_option maxRecDepth 100000 in
set_option maxHeartbeats 1000000 in
theorem q_X12_comeBack_20 {a0 : Nat} {arr : Nat → Nat} {P : Int32 → MS → Prop} {Q : Int32 → St → Prop} (hq : ∀ (r : Int32) (s : St), RF a0 arr s → P r (absM a0 arr s) → Q r s) : ∀ (x1 : Int32) (x2 : Int32) (x3 : Int32) (σ : St), RF a0 arr σ → p_X12_comeBack_20 P  x1 x2 x3 (absM a0 arr σ) → w_X12_comeBack_20 Q  a0 x1 x2 x3 σ := by
  intro x1 x2 x3 σ hR hp
  unfold p_X12_comeBack_20 at hp
  unfold w_X12_comeBack_20
  exact q_X12_comeBack_21 hq _ _ _ _ _ hR hp
set_option maxRecDepth 100000 in
set_option maxHeartbeats 1000000 in
theorem q_X12_comeBack {a0 : Nat} {arr : Nat → Nat} {σ : St} {x1 : Int32} {x2 : Int32} {x3 : Int32} (hR : RF a0 arr σ) {P : Int32 → MS → Prop} (hp : p_X12_comeBack x1 x2 x3 (absM a0 arr σ) P) {Q : Int32 → St → Prop} (hq : ∀ (r : Int32) (s : St), RF a0 arr s → P r (absM a0 arr s) → Q r s) : w_X12_comeBack a0 x1 x2 x3 σ Q := by
  unfold p_X12_comeBack at hp
  unfold w_X12_comeBack
  refine q_X12_isOrder hR hp (fun x51 s52 hR hp => ?_)
  refine ⟨fun c => ?_, fun c => ?_⟩
  · replace hp := hp.1 c
    exact q_X12_comeBack_20 hq _ _ _ _ hR hp
  · replace hp := hp.2 c
    refine q_X12_isLot hR hp (fun x77 s78 hR hp => ?_)
    refine ⟨fun c => ?_, fun c => ?_⟩
    · replace hp := hp.1 c
      exact q_X12_comeBack_20 hq _ _ _ _ hR hp
    · replace hp := hp.2 c
      exact q_X12_comeBack_21 hq _ _ _ _ _ hR hp
set_option maxRecDepth 100000 in
set_option maxHeartbeats 1000000 in
theorem q_X12_doing_13 {a0 : Nat} {arr : Nat → Nat} {P : Int32 → MS → Prop} {Q : Int32 → St → Prop} (hq : ∀ (r : Int32) (s : St), RF a0 arr s → P r (absM a0 arr s) → Q r s) : ∀ (x1 : Int32) (xs1 : Int32) (σ : St), RF a0 arr σ → p_X12_doing_13 P  x1 xs1 (absM a0 arr σ) → w_X12_doing_13 Q  a0 x1 a0 xs1 σ := by
  intro x1 xs1 σ hR hp
  unfold p_X12_doing_13 at hp
  unfold w_X12_doing_13
  refine q_X12_holds hR hp (fun x54 s55 hR hp => ?_)
  refine ⟨fun c => ?_, fun c => ?_⟩
  · replace hp := hp.1 c
    intro o57 ho57
    rw [hR.ref 59 (by first | decide | assumption)] at ho57
    subst ho57
    refine ⟨arr 59, rfl, ?_⟩
    refine ⟨by rw [hR.len 59 (by first | decide | assumption)]; exact hp.1, ?_⟩
    replace hp := hp.2
    refine ⟨fun c => ?_, fun c => ?_⟩
    · replace hp := hp.1 c
      intro o61 ho61
      rw [hR.ref 58 (by first | decide | assumption)] at ho61
      subst ho61
      refine ⟨arr 58, rfl, ?_⟩
      refine ⟨by rw [hR.len 58 (by first | decide | assumption)]; exact hp.1, ?_⟩
      replace hp := hp.2
      exact hq _ _ hR hp
    · replace hp := hp.2 c
      exact hq _ _ hR hp
  · replace hp := hp.2 c
    exact hq _ _ hR hp
set_option maxRecDepth 100000 in
set_option maxHeartbeats 1000000 in
theorem q_X12_doing {a0 : Nat} {arr : Nat → Nat} {σ : St} {x1 : Int32} (hR : RF a0 arr σ) {P : Int32 → MS → Prop} (hp : p_X12_doing x1 (absM a0 arr σ) P) {Q : Int32 → St → Prop} (hq : ∀ (r : Int32) (s : St), RF a0 arr s → P r (absM a0 arr s) → Q r s) : w_X12_doing a0 x1 σ Q := by
  unfold p_X12_doing at hp
  unfold w_X12_doing
  refine q_X12_isRobot hR hp (fun x51 s52 hR hp => ?_)
  refine ⟨fun c => ?_, fun c => ?_⟩
  · replace hp := hp.1 c
    exact q_X12_doing_13 hq _ _ _ hR hp
  · replace hp := hp.2 c
    exact q_X12_doing_13 hq _ _ _ hR hp
set_option maxRecDepth 100000 in
set_option maxHeartbeats 1000000 in
theorem q_X12_find_44 {a0 : Nat} {arr : Nat → Nat} {P : Int32 → MS → Prop} {Q : Int32 → St → Prop} (hq : ∀ (r : Int32) (s : St), RF a0 arr s → P r (absM a0 arr s) → Q r s) : ∀ (x1 : Int32) (x2 : Int32) (x3 : Int32) (xs1 : Int32) (σ : St), RF a0 arr σ → p_X12_find_44 P  x1 x2 x3 xs1 (absM a0 arr σ) → w_X12_find_44 Q  a0 x1 x2 x3 a0 xs1 σ := by
  intro x1 x2 x3 xs1 σ hR hp
  unfold p_X12_find_44 at hp
  unfold w_X12_find_44
  refine q_X12_holds hR hp (fun x58 s59 hR hp => ?_)
  refine ⟨fun c => ?_, fun c => ?_⟩
  · replace hp := hp.1 c
    intro o61 ho61
    rw [hR.ref 20 (by first | decide | assumption)] at ho61
    subst ho61
    intro x62 hx62
    replace hp := hp x62 hx62
    refine ⟨arr 20, rfl, ?_⟩
    refine ⟨by rw [hR.len 20 (by first | decide | assumption)]; exact hp.1, ?_⟩
    replace hp := hp.2
    refine ⟨by rw [hR.len 20 (by first | decide | assumption)]; exact hp.1, ?_⟩
    replace hp := hp.2
    intro s66 hs66
    have h2 := abs_setA hR 20 (by first | decide | assumption) hs66
    replace hR := hR.setA hs66
    replace hp := hp _ h2
    clear h2 hs66
    intro o67 ho67
    rw [hR.ref 20 (by first | decide | assumption)] at ho67
    subst ho67
    refine ⟨arr 20, rfl, ?_⟩
    refine ⟨by rw [hR.len 20 (by first | decide | assumption)]; exact hp.1, ?_⟩
    replace hp := hp.2
    exact hq _ _ hR hp
  · replace hp := hp.2 c
    exact hq _ _ hR hp
set_option maxRecDepth 100000 in
set_option maxHeartbeats 1000000 in
theorem q_X12_find_20 {a0 : Nat} {arr : Nat → Nat} {P : Int32 → MS → Prop} {Q : Int32 → St → Prop} (hq : ∀ (r : Int32) (s : St), RF a0 arr s → P r (absM a0 arr s) → Q r s) : ∀ (x1 : Int32) (x2 : Int32) (x3 : Int32) (xs0 : Int32) (σ : St), RF a0 arr σ → p_X12_find_20 P  x1 x2 x3 xs0 (absM a0 arr σ) → w_X12_find_20 Q  a0 x1 x2 x3 xs0 σ := by
  intro x1 x2 x3 xs0 σ hR hp
  unfold p_X12_find_20 at hp
  unfold w_X12_find_20
  refine ⟨fun c => ?_, fun c => ?_⟩
  · replace hp := hp.1 c
    refine q_X12_arePieces hR hp (fun x55 s56 hR hp => ?_)
    refine ⟨fun c => ?_, fun c => ?_⟩
    · replace hp := hp.1 c
      exact q_X12_find_44 hq _ _ _ _ _ hR hp
    · replace hp := hp.2 c
      exact q_X12_find_44 hq _ _ _ _ _ hR hp
  · replace hp := hp.2 c
    exact q_X12_find_44 hq _ _ _ _ _ hR hp
set_option maxRecDepth 100000 in
set_option maxHeartbeats 1000000 in
theorem q_X12_find_19 {a0 : Nat} {arr : Nat → Nat} {P : Int32 → MS → Prop} {Q : Int32 → St → Prop} (hq : ∀ (r : Int32) (s : St), RF a0 arr s → P r (absM a0 arr s) → Q r s) : ∀ (x1 : Int32) (x2 : Int32) (x3 : Int32) (σ : St), RF a0 arr σ → p_X12_find_19 P  x1 x2 x3 (absM a0 arr σ) → w_X12_find_19 Q  a0 x1 x2 x3 σ := by
  intro x1 x2 x3 σ hR hp
  unfold p_X12_find_19 at hp
  unfold w_X12_find_19
  exact q_X12_find_20 hq _ _ _ _ _ hR hp
set_option maxRecDepth 100000 in
set_option maxHeartbeats 1000000 in
theorem q_X12_find {a0 : Nat} {arr : Nat → Nat} {σ : St} {x1 : Int32} {x2 : Int32} {x3 : Int32} (hR : RF a0 arr σ) {P : Int32 → MS → Prop} (hp : p_X12_find x1 x2 x3 (absM a0 arr σ) P) {Q : Int32 → St → Prop} (hq : ∀ (r : Int32) (s : St), RF a0 arr s → P r (absM a0 arr s) → Q r s) : w_X12_find a0 x1 x2 x3 σ Q := by
  unfold p_X12_find at hp
  unfold w_X12_find
  refine q_X12_isSlot hR hp (fun x51 s52 hR hp => ?_)
  refine ⟨fun c => ?_, fun c => ?_⟩
  · replace hp := hp.1 c
    exact q_X12_find_19 hq _ _ _ _ hR hp
  · replace hp := hp.2 c
    refine q_X12_isLot hR hp (fun x70 s71 hR hp => ?_)
    refine ⟨fun c => ?_, fun c => ?_⟩
    · replace hp := hp.1 c
      exact q_X12_find_19 hq _ _ _ _ hR hp
    · replace hp := hp.2 c
      exact q_X12_find_20 hq _ _ _ _ _ hR hp
set_option maxRecDepth 100000 in
set_option maxHeartbeats 1000000 in
theorem q_X12_freeAt {a0 : Nat} {arr : Nat → Nat} {σ : St} {x1 : Int32} {x2 : Int32} (hR : RF a0 arr σ) {P : Int32 → MS → Prop} (hp : p_X12_freeAt x1 x2 (absM a0 arr σ) P) {Q : Int32 → St → Prop} (hq : ∀ (r : Int32) (s : St), RF a0 arr s → P r (absM a0 arr s) → Q r s) : w_X12_freeAt a0 x1 x2 σ Q := by
  unfold p_X12_freeAt at hp
  unfold w_X12_freeAt
  intro o51 ho51
  rw [hR.ref 19 (by first | decide | assumption)] at ho51
  subst ho51
  refine ⟨arr 19, rfl, ?_⟩
  refine ⟨by rw [hR.len 19 (by first | decide | assumption)]; exact hp.1, ?_⟩
  replace hp := hp.2
  refine q_X12_heldAt hR hp (fun x54 s55 hR hp => ?_)
  exact hq _ _ hR hp
set_option maxRecDepth 100000 in
set_option maxHeartbeats 1000000 in
theorem q_X12_give_44 {a0 : Nat} {arr : Nat → Nat} {P : Int32 → MS → Prop} {Q : Int32 → St → Prop} (hq : ∀ (r : Int32) (s : St), RF a0 arr s → P r (absM a0 arr s) → Q r s) : ∀ (x1 : Int32) (x2 : Int32) (xs1 : Int32) (σ : St), RF a0 arr σ → p_X12_give_44 P  x1 x2 xs1 (absM a0 arr σ) → w_X12_give_44 Q  a0 x1 x2 a0 xs1 σ := by
  intro x1 x2 xs1 σ hR hp
  unfold p_X12_give_44 at hp
  unfold w_X12_give_44
  refine q_X12_holds hR hp (fun x59 s60 hR hp => ?_)
  refine ⟨fun c => ?_, fun c => ?_⟩
  · replace hp := hp.1 c
    refine q_X12_gives hR hp (fun s63 hR hp => ?_)
    intro o64 ho64
    rw [hR.ref 59 (by first | decide | assumption)] at ho64
    subst ho64
    refine ⟨arr 59, rfl, ?_⟩
    refine ⟨by rw [hR.len 59 (by first | decide | assumption)]; exact hp.1, ?_⟩
    replace hp := hp.2
    exact hq _ _ hR hp
  · replace hp := hp.2 c
    exact hq _ _ hR hp
set_option maxRecDepth 100000 in
set_option maxHeartbeats 1000000 in
theorem q_X12_give_20 {a0 : Nat} {arr : Nat → Nat} {P : Int32 → MS → Prop} {Q : Int32 → St → Prop} (hq : ∀ (r : Int32) (s : St), RF a0 arr s → P r (absM a0 arr s) → Q r s) : ∀ (x1 : Int32) (x2 : Int32) (xs0 : Int32) (σ : St), RF a0 arr σ → p_X12_give_20 P  x1 x2 xs0 (absM a0 arr σ) → w_X12_give_20 Q  a0 x1 x2 xs0 σ := by
  intro x1 x2 xs0 σ hR hp
  unfold p_X12_give_20 at hp
  unfold w_X12_give_20
  refine ⟨fun c => ?_, fun c => ?_⟩
  · replace hp := hp.1 c
    intro o55 ho55
    rw [hR.ref 52 (by first | decide | assumption)] at ho55
    subst ho55
    refine ⟨arr 52, rfl, ?_⟩
    refine ⟨by rw [hR.len 52 (by first | decide | assumption)]; exact hp.1, ?_⟩
    replace hp := hp.2
    refine ⟨fun c => ?_, fun c => ?_⟩
    · replace hp := hp.1 c
      exact q_X12_give_44 hq _ _ _ _ hR hp
    · replace hp := hp.2 c
      exact q_X12_give_44 hq _ _ _ _ hR hp
  · replace hp := hp.2 c
    exact q_X12_give_44 hq _ _ _ _ hR hp
set_option maxRecDepth 100000 in
set_option maxHeartbeats 1000000 in
theorem q_X12_give_19 {a0 : Nat} {arr : Nat → Nat} {P : Int32 → MS → Prop} {Q : Int32 → St → Prop} (hq : ∀ (r : Int32) (s : St), RF a0 arr s → P r (absM a0 arr s) → Q r s) : ∀ (x1 : Int32) (x2 : Int32) (σ : St), RF a0 arr σ → p_X12_give_19 P  x1 x2 (absM a0 arr σ) → w_X12_give_19 Q  a0 x1 x2 σ := by
  intro x1 x2 σ hR hp
  unfold p_X12_give_19 at hp
  unfold w_X12_give_19
  exact q_X12_give_20 hq _ _ _ _ hR hp
set_option maxRecDepth 100000 in
set_option maxHeartbeats 1000000 in
theorem q_X12_give {a0 : Nat} {arr : Nat → Nat} {σ : St} {x1 : Int32} {x2 : Int32} (hR : RF a0 arr σ) {P : Int32 → MS → Prop} (hp : p_X12_give x1 x2 (absM a0 arr σ) P) {Q : Int32 → St → Prop} (hq : ∀ (r : Int32) (s : St), RF a0 arr s → P r (absM a0 arr s) → Q r s) : w_X12_give a0 x1 x2 σ Q := by
  unfold p_X12_give at hp
  unfold w_X12_give
  refine q_X12_isRobot hR hp (fun x51 s52 hR hp => ?_)
  refine ⟨fun c => ?_, fun c => ?_⟩
  · replace hp := hp.1 c
    exact q_X12_give_19 hq _ _ _ hR hp
  · replace hp := hp.2 c
    refine q_X12_isTask hR hp (fun x67 s68 hR hp => ?_)
    refine ⟨fun c => ?_, fun c => ?_⟩
    · replace hp := hp.1 c
      exact q_X12_give_19 hq _ _ _ hR hp
    · replace hp := hp.2 c
      exact q_X12_give_20 hq _ _ _ _ hR hp
set_option maxRecDepth 100000 in
set_option maxHeartbeats 1000000 in
theorem q_X12_held_43 {a0 : Nat} {arr : Nat → Nat} {P : Int32 → MS → Prop} {Q : Int32 → St → Prop} (hq : ∀ (r : Int32) (s : St), RF a0 arr s → P r (absM a0 arr s) → Q r s) : ∀ (f : Nat) (x1 : Int32) (x2 : Int32) (x3 : Int32) (x4 : Int32) (x5 : Int32) (σ : St), RF a0 arr σ → p_X12_held_43 P  f x1 x2 x3 x4 x5 (absM a0 arr σ) → w_X12_held_43 Q  f a0 x1 x2 x3 x4 x5 σ := by
  intro f
  induction f with
  | zero => intro x1 x2 x3 x4 x5 σ hR hp; exact hp.elim
  | succ f ih =>
    intro x1 x2 x3 x4 x5 σ hR hp
    unfold p_X12_held_43 at hp
    unfold w_X12_held_43
    refine ⟨fun c => ?_, fun c => ?_⟩
    · replace hp := hp.1 c
      exact hq _ _ hR hp
    · replace hp := hp.2 c
      intro o58 ho58
      rw [hR.ref 40 (by first | decide | assumption)] at ho58
      subst ho58
      refine ⟨arr 40, rfl, ?_⟩
      refine ⟨by rw [hR.len 40 (by first | decide | assumption)]; exact hp.1, ?_⟩
      replace hp := hp.2
      refine ⟨fun c => ?_, fun c => ?_⟩
      · replace hp := hp.1 c
        intro x62 hx62
        replace hp := hp x62 hx62
        exact ih _ _ _ _ _ _ hR hp
      · replace hp := hp.2 c
        intro o63 ho63
        rw [hR.ref 41 (by first | decide | assumption)] at ho63
        subst ho63
        refine ⟨arr 41, rfl, ?_⟩
        refine ⟨by rw [hR.len 41 (by first | decide | assumption)]; exact hp.1, ?_⟩
        replace hp := hp.2
        refine ⟨fun c => ?_, fun c => ?_⟩
        · replace hp := hp.1 c
          intro x67 hx67
          replace hp := hp x67 hx67
          exact ih _ _ _ _ _ _ hR hp
        · replace hp := hp.2 c
          intro o68 ho68
          rw [hR.ref 42 (by first | decide | assumption)] at ho68
          subst ho68
          refine ⟨arr 42, rfl, ?_⟩
          refine ⟨by rw [hR.len 42 (by first | decide | assumption)]; exact hp.1, ?_⟩
          replace hp := hp.2
          refine ⟨fun c => ?_, fun c => ?_⟩
          · replace hp := hp.1 c
            intro x72 hx72
            replace hp := hp x72 hx72
            exact ih _ _ _ _ _ _ hR hp
          · replace hp := hp.2 c
            intro o73 ho73
            rw [hR.ref 43 (by first | decide | assumption)] at ho73
            subst ho73
            refine ⟨arr 43, rfl, ?_⟩
            refine ⟨by rw [hR.len 43 (by first | decide | assumption)]; exact hp.1, ?_⟩
            replace hp := hp.2
            intro x76 hx76
            replace hp := hp x76 hx76
            exact ih _ _ _ _ _ _ hR hp
set_option maxRecDepth 100000 in
set_option maxHeartbeats 1000000 in
theorem q_X12_held_29 {a0 : Nat} {arr : Nat → Nat} {P : Int32 → MS → Prop} {Q : Int32 → St → Prop} (hq : ∀ (r : Int32) (s : St), RF a0 arr s → P r (absM a0 arr s) → Q r s) : ∀ (x1 : Int32) (x2 : Int32) (x3 : Int32) (xs1 : Int32) (σ : St), RF a0 arr σ → p_X12_held_29 P  x1 x2 x3 xs1 (absM a0 arr σ) → w_X12_held_29 Q  a0 x1 x2 x3 a0 xs1 σ := by
  intro x1 x2 x3 xs1 σ hR hp
  unfold p_X12_held_29 at hp
  unfold w_X12_held_29
  refine q_X12_holds hR hp (fun x54 s55 hR hp => ?_)
  refine ⟨fun c => ?_, fun c => ?_⟩
  · replace hp := hp.1 c
    obtain ⟨f77, hp⟩ := hp
    refine ⟨f77, ?_⟩
    exact q_X12_held_43 hq f77 _ _ _ _ _ _ hR hp
  · replace hp := hp.2 c
    exact hq _ _ hR hp
set_option maxRecDepth 100000 in
set_option maxHeartbeats 1000000 in
theorem q_X12_held_28 {a0 : Nat} {arr : Nat → Nat} {P : Int32 → MS → Prop} {Q : Int32 → St → Prop} (hq : ∀ (r : Int32) (s : St), RF a0 arr s → P r (absM a0 arr s) → Q r s) : ∀ (x1 : Int32) (x2 : Int32) (x3 : Int32) (σ : St), RF a0 arr σ → p_X12_held_28 P  x1 x2 x3 (absM a0 arr σ) → w_X12_held_28 Q  a0 x1 x2 x3 a0 σ := by
  intro x1 x2 x3 σ hR hp
  unfold p_X12_held_28 at hp
  unfold w_X12_held_28
  exact q_X12_held_29 hq _ _ _ _ _ hR hp
set_option maxRecDepth 100000 in
set_option maxHeartbeats 1000000 in
theorem q_X12_held {a0 : Nat} {arr : Nat → Nat} {σ : St} {x1 : Int32} {x2 : Int32} {x3 : Int32} (hR : RF a0 arr σ) {P : Int32 → MS → Prop} (hp : p_X12_held x1 x2 x3 (absM a0 arr σ) P) {Q : Int32 → St → Prop} (hq : ∀ (r : Int32) (s : St), RF a0 arr s → P r (absM a0 arr s) → Q r s) : w_X12_held a0 x1 x2 x3 σ Q := by
  unfold p_X12_held at hp
  unfold w_X12_held
  refine q_X12_isOrder hR hp (fun x51 s52 hR hp => ?_)
  refine ⟨fun c => ?_, fun c => ?_⟩
  · replace hp := hp.1 c
    exact q_X12_held_28 hq _ _ _ _ hR hp
  · replace hp := hp.2 c
    refine q_X12_isSlot hR hp (fun x78 s79 hR hp => ?_)
    refine ⟨fun c => ?_, fun c => ?_⟩
    · replace hp := hp.1 c
      exact q_X12_held_28 hq _ _ _ _ hR hp
    · replace hp := hp.2 c
      refine q_X12_isLot hR hp (fun x81 s82 hR hp => ?_)
      refine ⟨fun c => ?_, fun c => ?_⟩
      · replace hp := hp.1 c
        exact q_X12_held_28 hq _ _ _ _ hR hp
      · replace hp := hp.2 c
        exact q_X12_held_29 hq _ _ _ _ _ hR hp
set_option maxRecDepth 100000 in
set_option maxHeartbeats 1000000 in
theorem q_X12_isAsked_23 {a0 : Nat} {arr : Nat → Nat} {P : Int32 → MS → Prop} {Q : Int32 → St → Prop} (hq : ∀ (r : Int32) (s : St), RF a0 arr s → P r (absM a0 arr s) → Q r s) : ∀ (xs1 : Int32) (σ : St), RF a0 arr σ → p_X12_isAsked_23 P  xs1 (absM a0 arr σ) → w_X12_isAsked_23 Q  a0 xs1 σ := by
  intro xs1 σ hR hp
  unfold p_X12_isAsked_23 at hp
  unfold w_X12_isAsked_23
  refine q_X12_holds hR hp (fun x54 s55 hR hp => ?_)
  refine ⟨hp.1, ?_⟩
  replace hp := hp.2
  exact hq _ _ hR hp
set_option maxRecDepth 100000 in
set_option maxHeartbeats 1000000 in
theorem q_X12_isAsked_22 {a0 : Nat} {arr : Nat → Nat} {P : Int32 → MS → Prop} {Q : Int32 → St → Prop} (hq : ∀ (r : Int32) (s : St), RF a0 arr s → P r (absM a0 arr s) → Q r s) : ∀  (σ : St), RF a0 arr σ → p_X12_isAsked_22 P   (absM a0 arr σ) → w_X12_isAsked_22 Q  a0 σ := by
  intro σ hR hp
  unfold p_X12_isAsked_22 at hp
  unfold w_X12_isAsked_22
  exact q_X12_isAsked_23 hq _ _ hR hp
set_option maxRecDepth 100000 in
set_option maxHeartbeats 1000000 in
theorem q_X12_isAsked {a0 : Nat} {arr : Nat → Nat} {σ : St} {x1 : Int32} {x2 : Int32} {x3 : Int32} (hR : RF a0 arr σ) {P : Int32 → MS → Prop} (hp : p_X12_isAsked x1 x2 x3 (absM a0 arr σ) P) {Q : Int32 → St → Prop} (hq : ∀ (r : Int32) (s : St), RF a0 arr s → P r (absM a0 arr s) → Q r s) : w_X12_isAsked a0 x1 x2 x3 σ Q := by
  unfold p_X12_isAsked at hp
  unfold w_X12_isAsked
  refine q_X12_isIn hR hp (fun x51 s52 hR hp => ?_)
  refine ⟨fun c => ?_, fun c => ?_⟩
  · replace hp := hp.1 c
    exact q_X12_isAsked_22 hq _ hR hp
  · replace hp := hp.2 c
    refine q_X12_isLot hR hp (fun x56 s57 hR hp => ?_)
    refine ⟨fun c => ?_, fun c => ?_⟩
    · replace hp := hp.1 c
      exact q_X12_isAsked_22 hq _ hR hp
    · replace hp := hp.2 c
      exact q_X12_isAsked_23 hq _ _ hR hp
set_option maxRecDepth 100000 in
set_option maxHeartbeats 1000000 in
theorem q_X12_isBarredIn_5 {a0 : Nat} {arr : Nat → Nat} {P : Int32 → MS → Prop} {Q : Int32 → St → Prop} (hq : ∀ (r : Int32) (s : St), RF a0 arr s → P r (absM a0 arr s) → Q r s) : ∀ (f : Nat) (x1 : Int32) (x2 : Int32) (x3 : Int32) (x4 : Int32) (σ : St), RF a0 arr σ → p_X12_isBarredIn_5 P  f x1 x2 x3 x4 (absM a0 arr σ) → w_X12_isBarredIn_5 Q  f a0 x1 x2 x3 x4 σ := by
  intro f
  induction f with
  | zero => intro x1 x2 x3 x4 σ hR hp; exact hp.elim
  | succ f ih =>
    intro x1 x2 x3 x4 σ hR hp
    unfold p_X12_isBarredIn_5 at hp
    unfold w_X12_isBarredIn_5
    refine ⟨fun c => ?_, fun c => ?_⟩
    · replace hp := hp.1 c
      refine ⟨hp.1, ?_⟩
      replace hp := hp.2
      exact hq _ _ hR hp
    · replace hp := hp.2 c
      refine ⟨fun c => ?_, fun c => ?_⟩
      · replace hp := hp.1 c
        exact ih _ _ _ _ _ hR hp
      · replace hp := hp.2 c
        refine ⟨fun c => ?_, fun c => ?_⟩
        · replace hp := hp.1 c
          exact ih _ _ _ _ _ hR hp
        · replace hp := hp.2 c
          intro o54 ho54
          rw [hR.ref 14 (by first | decide | assumption)] at ho54
          subst ho54
          intro o55 ho55
          rw [hR.ref 12 (by first | decide | assumption)] at ho55
          subst ho55
          refine ⟨arr 12, rfl, ?_⟩
          refine ⟨by rw [hR.len 12 (by first | decide | assumption)]; exact hp.1, ?_⟩
          replace hp := hp.2
          intro o58 ho58
          rw [hR.ref 12 (by first | decide | assumption)] at ho58
          subst ho58
          refine ⟨arr 12, rfl, ?_⟩
          refine ⟨by rw [hR.len 12 (by first | decide | assumption)]; exact hp.1, ?_⟩
          replace hp := hp.2
          refine ⟨arr 14, rfl, ?_⟩
          refine ⟨by rw [hR.len 14 (by first | decide | assumption)]; exact hp.1, ?_⟩
          replace hp := hp.2
          refine ⟨fun c => ?_, fun c => ?_⟩
          · replace hp := hp.1 c
            exact ih _ _ _ _ _ hR hp
          · replace hp := hp.2 c
            refine q_X12_standsIn hR hp (fun x64 s65 hR hp => ?_)
            refine ⟨fun c => ?_, fun c => ?_⟩
            · replace hp := hp.1 c
              exact ih _ _ _ _ _ hR hp
            · replace hp := hp.2 c
              exact ih _ _ _ _ _ hR hp
set_option maxRecDepth 100000 in
set_option maxHeartbeats 1000000 in
theorem q_X12_isBarredIn {a0 : Nat} {arr : Nat → Nat} {σ : St} {x1 : Int32} {x2 : Int32} (hR : RF a0 arr σ) {P : Int32 → MS → Prop} (hp : p_X12_isBarredIn x1 x2 (absM a0 arr σ) P) {Q : Int32 → St → Prop} (hq : ∀ (r : Int32) (s : St), RF a0 arr s → P r (absM a0 arr s) → Q r s) : w_X12_isBarredIn a0 x1 x2 σ Q := by
  unfold p_X12_isBarredIn at hp
  unfold w_X12_isBarredIn
  obtain ⟨f67, hp⟩ := hp
  refine ⟨f67, ?_⟩
  exact q_X12_isBarredIn_5 hq f67 _ _ _ _ _ hR hp
set_option maxRecDepth 100000 in
set_option maxHeartbeats 1000000 in
theorem q_X12_isEmpty_16 {a0 : Nat} {arr : Nat → Nat} {P : Int32 → MS → Prop} {Q : Int32 → St → Prop} (hq : ∀ (r : Int32) (s : St), RF a0 arr s → P r (absM a0 arr s) → Q r s) : ∀ (f : Nat) (x1 : Int32) (x2 : Int32) (x3 : Int32) (σ : St), RF a0 arr σ → p_X12_isEmpty_16 P  f x1 x2 x3 (absM a0 arr σ) → w_X12_isEmpty_16 Q  f a0 x1 x2 x3 σ := by
  intro f
  induction f with
  | zero => intro x1 x2 x3 σ hR hp; exact hp.elim
  | succ f ih =>
    intro x1 x2 x3 σ hR hp
    unfold p_X12_isEmpty_16 at hp
    unfold w_X12_isEmpty_16
    refine ⟨fun c => ?_, fun c => ?_⟩
    · replace hp := hp.1 c
      refine ⟨hp.1, ?_⟩
      replace hp := hp.2
      exact hq _ _ hR hp
    · replace hp := hp.2 c
      refine ⟨fun c => ?_, fun c => ?_⟩
      · replace hp := hp.1 c
        exact ih _ _ _ _ hR hp
      · replace hp := hp.2 c
        refine q_X12_itemIn hR hp (fun x56 s57 hR hp => ?_)
        refine ⟨fun c => ?_, fun c => ?_⟩
        · replace hp := hp.1 c
          exact ih _ _ _ _ hR hp
        · replace hp := hp.2 c
          exact ih _ _ _ _ hR hp
set_option maxRecDepth 100000 in
set_option maxHeartbeats 1000000 in
theorem q_X12_isEmpty {a0 : Nat} {arr : Nat → Nat} {σ : St} {x1 : Int32} (hR : RF a0 arr σ) {P : Int32 → MS → Prop} (hp : p_X12_isEmpty x1 (absM a0 arr σ) P) {Q : Int32 → St → Prop} (hq : ∀ (r : Int32) (s : St), RF a0 arr s → P r (absM a0 arr s) → Q r s) : w_X12_isEmpty a0 x1 σ Q := by
  unfold p_X12_isEmpty at hp
  unfold w_X12_isEmpty
  refine q_X12_roomHeld hR hp (fun x51 s52 hR hp => ?_)
  refine ⟨fun c => ?_, fun c => ?_⟩
  · replace hp := hp.1 c
    obtain ⟨f59, hp⟩ := hp
    refine ⟨f59, ?_⟩
    exact q_X12_isEmpty_16 hq f59 _ _ _ _ hR hp
  · replace hp := hp.2 c
    obtain ⟨f60, hp⟩ := hp
    refine ⟨f60, ?_⟩
    exact q_X12_isEmpty_16 hq f60 _ _ _ _ hR hp
set_option maxRecDepth 100000 in
set_option maxHeartbeats 1000000 in
theorem q_X12_item_161 {a0 : Nat} {arr : Nat → Nat} {P : MS → Prop} {Q : St → Prop} (hq : ∀ (s : St), RF a0 arr s → P (absM a0 arr s) → Q s) : ∀ (x1 : Int32) (x2 : Int32) (x3 : Int32) (x4 : Int32) (x5 : Int32) (x6 : Int32) (xs1 : Int32) (σ : St), RF a0 arr σ → p_X12_item_161 P  x1 x2 x3 x4 x5 x6 xs1 (absM a0 arr σ) → w_X12_item_161 Q  a0 x1 x2 x3 x4 x5 x6 a0 xs1 σ := by
  intro x1 x2 x3 x4 x5 x6 xs1 σ hR hp
  unfold p_X12_item_161 at hp
  unfold w_X12_item_161
  refine q_X12_holds hR hp (fun x61 s62 hR hp => ?_)
  refine ⟨fun c => ?_, fun c => ?_⟩
  · replace hp := hp.1 c
    exact hq _ hR hp
  · replace hp := hp.2 c
    intro o64 ho64
    rw [hR.ref 9 (by first | decide | assumption)] at ho64
    subst ho64
    refine ⟨arr 9, rfl, ?_⟩
    refine ⟨by rw [hR.len 9 (by first | decide | assumption)]; exact hp.1, ?_⟩
    replace hp := hp.2
    intro s67 hs67
    have h2 := abs_setA hR 9 (by first | decide | assumption) hs67
    replace hR := hR.setA hs67
    replace hp := hp _ h2
    clear h2 hs67
    intro o68 ho68
    rw [hR.ref 10 (by first | decide | assumption)] at ho68
    subst ho68
    refine ⟨arr 10, rfl, ?_⟩
    refine ⟨by rw [hR.len 10 (by first | decide | assumption)]; exact hp.1, ?_⟩
    replace hp := hp.2
    intro s71 hs71
    have h2 := abs_setA hR 10 (by first | decide | assumption) hs71
    replace hR := hR.setA hs71
    replace hp := hp _ h2
    clear h2 hs71
    intro o72 ho72
    rw [hR.ref 11 (by first | decide | assumption)] at ho72
    subst ho72
    refine ⟨arr 11, rfl, ?_⟩
    refine ⟨by rw [hR.len 11 (by first | decide | assumption)]; exact hp.1, ?_⟩
    replace hp := hp.2
    intro s75 hs75
    have h2 := abs_setA hR 11 (by first | decide | assumption) hs75
    replace hR := hR.setA hs75
    replace hp := hp _ h2
    clear h2 hs75
    intro o76 ho76
    rw [hR.ref 12 (by first | decide | assumption)] at ho76
    subst ho76
    refine ⟨arr 12, rfl, ?_⟩
    refine ⟨by rw [hR.len 12 (by first | decide | assumption)]; exact hp.1, ?_⟩
    replace hp := hp.2
    intro s79 hs79
    have h2 := abs_setA hR 12 (by first | decide | assumption) hs79
    replace hR := hR.setA hs79
    replace hp := hp _ h2
    clear h2 hs79
    intro o80 ho80
    rw [hR.ref 13 (by first | decide | assumption)] at ho80
    subst ho80
    refine ⟨arr 13, rfl, ?_⟩
    refine ⟨by rw [hR.len 13 (by first | decide | assumption)]; exact hp.1, ?_⟩
    replace hp := hp.2
    intro s83 hs83
    have h2 := abs_setA hR 13 (by first | decide | assumption) hs83
    replace hR := hR.setA hs83
    replace hp := hp _ h2
    clear h2 hs83
    exact hq _ hR hp
set_option maxRecDepth 100000 in
set_option maxHeartbeats 1000000 in
theorem q_X12_item_76 {a0 : Nat} {arr : Nat → Nat} {P : MS → Prop} {Q : St → Prop} (hq : ∀ (s : St), RF a0 arr s → P (absM a0 arr s) → Q s) : ∀ (f : Nat) (x1 : Int32) (x2 : Int32) (x3 : Int32) (x4 : Int32) (x5 : Int32) (x6 : Int32) (x7 : Int32) (x8 : Int32) (x9 : Int32) (x10 : Int32) (σ : St), RF a0 arr σ → p_X12_item_76 P  f x1 x2 x3 x4 x5 x6 x7 x8 x9 x10 (absM a0 arr σ) → w_X12_item_76 Q  f a0 x1 x2 x3 x4 x5 x6 x7 x8 x9 x10 σ := by
  intro f
  induction f with
  | zero => intro x1 x2 x3 x4 x5 x6 x7 x8 x9 x10 σ hR hp; exact hp.elim
  | succ f ih =>
    intro x1 x2 x3 x4 x5 x6 x7 x8 x9 x10 σ hR hp
    unfold p_X12_item_76 at hp
    unfold w_X12_item_76
    refine ⟨fun c => ?_, fun c => ?_⟩
    · replace hp := hp.1 c
      refine ⟨fun c => ?_, fun c => ?_⟩
      · replace hp := hp.1 c
        refine ⟨fun c => ?_, fun c => ?_⟩
        · replace hp := hp.1 c
          refine ⟨fun c => ?_, fun c => ?_⟩
          · replace hp := hp.1 c
            exact q_X12_item_161 hq _ _ _ _ _ _ _ _ hR hp
          · replace hp := hp.2 c
            exact q_X12_item_161 hq _ _ _ _ _ _ _ _ hR hp
        · replace hp := hp.2 c
          exact q_X12_item_161 hq _ _ _ _ _ _ _ _ hR hp
      · replace hp := hp.2 c
        exact q_X12_item_161 hq _ _ _ _ _ _ _ _ hR hp
    · replace hp := hp.2 c
      refine ⟨fun c => ?_, fun c => ?_⟩
      · replace hp := hp.1 c
        exact ih _ _ _ _ _ _ _ _ _ _ _ hR hp
      · replace hp := hp.2 c
        intro o85 ho85
        rw [hR.ref 6 (by first | decide | assumption)] at ho85
        subst ho85
        refine ⟨arr 6, rfl, ?_⟩
        refine ⟨by rw [hR.len 6 (by first | decide | assumption)]; exact hp.1, ?_⟩
        replace hp := hp.2
        refine ⟨fun c => ?_, fun c => ?_⟩
        · replace hp := hp.1 c
          exact ih _ _ _ _ _ _ _ _ _ _ _ hR hp
        · replace hp := hp.2 c
          refine ⟨fun c => ?_, fun c => ?_⟩
          · replace hp := hp.1 c
            exact ih _ _ _ _ _ _ _ _ _ _ _ hR hp
          · replace hp := hp.2 c
            intro o90 ho90
            rw [hR.ref 16 (by first | decide | assumption)] at ho90
            subst ho90
            refine ⟨arr 16, rfl, ?_⟩
            refine ⟨by rw [hR.len 16 (by first | decide | assumption)]; exact hp.1, ?_⟩
            replace hp := hp.2
            refine ⟨fun c => ?_, fun c => ?_⟩
            · replace hp := hp.1 c
              exact ih _ _ _ _ _ _ _ _ _ _ _ hR hp
            · replace hp := hp.2 c
              exact ih _ _ _ _ _ _ _ _ _ _ _ hR hp
set_option maxRecDepth 100000 in
set_option maxHeartbeats 1000000 in
theorem q_X12_item_67 {a0 : Nat} {arr : Nat → Nat} {P : MS → Prop} {Q : St → Prop} (hq : ∀ (s : St), RF a0 arr s → P (absM a0 arr s) → Q s) : ∀ (x1 : Int32) (x2 : Int32) (x3 : Int32) (x4 : Int32) (x5 : Int32) (x6 : Int32) (x7 : Int32) (σ : St), RF a0 arr σ → p_X12_item_67 P  x1 x2 x3 x4 x5 x6 x7 (absM a0 arr σ) → w_X12_item_67 Q  a0 x1 x2 x3 x4 x5 x6 x7 σ := by
  intro x1 x2 x3 x4 x5 x6 x7 σ hR hp
  unfold p_X12_item_67 at hp
  unfold w_X12_item_67
  obtain ⟨f94, hp⟩ := hp
  refine ⟨f94, ?_⟩
  exact q_X12_item_76 hq f94 _ _ _ _ _ _ _ _ _ _ _ hR hp
set_option maxRecDepth 100000 in
set_option maxHeartbeats 1000000 in
theorem q_X12_item_20 {a0 : Nat} {arr : Nat → Nat} {P : MS → Prop} {Q : St → Prop} (hq : ∀ (s : St), RF a0 arr s → P (absM a0 arr s) → Q s) : ∀ (x1 : Int32) (x2 : Int32) (x3 : Int32) (x4 : Int32) (x5 : Int32) (x6 : Int32) (xs0 : Int32) (σ : St), RF a0 arr σ → p_X12_item_20 P  x1 x2 x3 x4 x5 x6 xs0 (absM a0 arr σ) → w_X12_item_20 Q  a0 x1 x2 x3 x4 x5 x6 xs0 σ := by
  intro x1 x2 x3 x4 x5 x6 xs0 σ hR hp
  unfold p_X12_item_20 at hp
  unfold w_X12_item_20
  refine q_X12_isIn hR hp (fun x54 s55 hR hp => ?_)
  refine ⟨fun c => ?_, fun c => ?_⟩
  · replace hp := hp.1 c
    exact q_X12_item_67 hq _ _ _ _ _ _ _ _ hR hp
  · replace hp := hp.2 c
    refine q_X12_isIn hR hp (fun x95 s96 hR hp => ?_)
    refine ⟨fun c => ?_, fun c => ?_⟩
    · replace hp := hp.1 c
      exact q_X12_item_67 hq _ _ _ _ _ _ _ _ hR hp
    · replace hp := hp.2 c
      refine q_X12_isIn hR hp (fun x98 s99 hR hp => ?_)
      refine ⟨fun c => ?_, fun c => ?_⟩
      · replace hp := hp.1 c
        exact q_X12_item_67 hq _ _ _ _ _ _ _ _ hR hp
      · replace hp := hp.2 c
        refine q_X12_isIn hR hp (fun x101 s102 hR hp => ?_)
        refine ⟨fun c => ?_, fun c => ?_⟩
        · replace hp := hp.1 c
          exact q_X12_item_67 hq _ _ _ _ _ _ _ _ hR hp
        · replace hp := hp.2 c
          obtain ⟨f104, hp⟩ := hp
          refine ⟨f104, ?_⟩
          exact q_X12_item_76 hq f104 _ _ _ _ _ _ _ _ _ _ _ hR hp
set_option maxRecDepth 100000 in
set_option maxHeartbeats 1000000 in
theorem q_X12_item_19 {a0 : Nat} {arr : Nat → Nat} {P : MS → Prop} {Q : St → Prop} (hq : ∀ (s : St), RF a0 arr s → P (absM a0 arr s) → Q s) : ∀ (x1 : Int32) (x2 : Int32) (x3 : Int32) (x4 : Int32) (x5 : Int32) (x6 : Int32) (σ : St), RF a0 arr σ → p_X12_item_19 P  x1 x2 x3 x4 x5 x6 (absM a0 arr σ) → w_X12_item_19 Q  a0 x1 x2 x3 x4 x5 x6 σ := by
  intro x1 x2 x3 x4 x5 x6 σ hR hp
  unfold p_X12_item_19 at hp
  unfold w_X12_item_19
  exact q_X12_item_20 hq _ _ _ _ _ _ _ _ hR hp
set_option maxRecDepth 100000 in
set_option maxHeartbeats 1000000 in
theorem q_X12_item {a0 : Nat} {arr : Nat → Nat} {σ : St} {x1 : Int32} {x2 : Int32} {x3 : Int32} {x4 : Int32} {x5 : Int32} {x6 : Int32} (hR : RF a0 arr σ) {P : MS → Prop} (hp : p_X12_item x1 x2 x3 x4 x5 x6 (absM a0 arr σ) P) {Q : St → Prop} (hq : ∀ (s : St), RF a0 arr s → P (absM a0 arr s) → Q s) : w_X12_item a0 x1 x2 x3 x4 x5 x6 σ Q := by
  unfold p_X12_item at hp
  unfold w_X12_item
  refine q_X12_isItem hR hp (fun x51 s52 hR hp => ?_)
  refine ⟨fun c => ?_, fun c => ?_⟩
  · replace hp := hp.1 c
    exact q_X12_item_19 hq _ _ _ _ _ _ _ hR hp
  · replace hp := hp.2 c
    refine q_X12_isGroup hR hp (fun x105 s106 hR hp => ?_)
    refine ⟨fun c => ?_, fun c => ?_⟩
    · replace hp := hp.1 c
      exact q_X12_item_19 hq _ _ _ _ _ _ _ hR hp
    · replace hp := hp.2 c
      exact q_X12_item_20 hq _ _ _ _ _ _ _ _ hR hp
set_option maxRecDepth 100000 in
set_option maxHeartbeats 1000000 in
theorem q_X12_judge_77 {a0 : Nat} {arr : Nat → Nat} {P : Int32 → MS → Prop} {Q : Int32 → St → Prop} (hq : ∀ (r : Int32) (s : St), RF a0 arr s → P r (absM a0 arr s) → Q r s) : ∀ (x1 : Int32) (xs1 : Int32) (xs2 : Int32) (xs3 : Int32) (σ : St), RF a0 arr σ → p_X12_judge_77 P  x1 xs1 xs2 xs3 (absM a0 arr σ) → w_X12_judge_77 Q  a0 x1 a0 xs1 xs2 xs3 σ := by
  intro x1 xs1 xs2 xs3 σ hR hp
  unfold p_X12_judge_77 at hp
  unfold w_X12_judge_77
  refine q_X12_books hR hp (fun s68 hR hp => ?_)
  intro o69 ho69
  rw [hR.ref 19 (by first | decide | assumption)] at ho69
  subst ho69
  refine ⟨arr 19, rfl, ?_⟩
  refine ⟨by rw [hR.len 19 (by first | decide | assumption)]; exact hp.1, ?_⟩
  replace hp := hp.2
  exact hq _ _ hR hp
set_option maxRecDepth 100000 in
set_option maxHeartbeats 1000000 in
theorem q_X12_judge_47 {a0 : Nat} {arr : Nat → Nat} {P : Int32 → MS → Prop} {Q : Int32 → St → Prop} (hq : ∀ (r : Int32) (s : St), RF a0 arr s → P r (absM a0 arr s) → Q r s) : ∀ (x1 : Int32) (x2 : Int32) (x3 : Int32) (xs1 : Int32) (σ : St), RF a0 arr σ → p_X12_judge_47 P  x1 x2 x3 xs1 (absM a0 arr σ) → w_X12_judge_47 Q  a0 x1 x2 x3 a0 xs1 σ := by
  intro x1 x2 x3 xs1 σ hR hp
  unfold p_X12_judge_47 at hp
  unfold w_X12_judge_47
  refine q_X12_holds hR hp (fun x61 s62 hR hp => ?_)
  refine ⟨fun c => ?_, fun c => ?_⟩
  · replace hp := hp.1 c
    refine q_X12_books hR hp (fun s65 hR hp => ?_)
    refine ⟨fun c => ?_, fun c => ?_⟩
    · replace hp := hp.1 c
      exact q_X12_judge_77 hq _ _ _ _ _ hR hp
    · replace hp := hp.2 c
      exact q_X12_judge_77 hq _ _ _ _ _ hR hp
  · replace hp := hp.2 c
    exact hq _ _ hR hp
set_option maxRecDepth 100000 in
set_option maxHeartbeats 1000000 in
theorem q_X12_judge {a0 : Nat} {arr : Nat → Nat} {σ : St} {x1 : Int32} {x2 : Int32} {x3 : Int32} (hR : RF a0 arr σ) {P : Int32 → MS → Prop} (hp : p_X12_judge x1 x2 x3 (absM a0 arr σ) P) {Q : Int32 → St → Prop} (hq : ∀ (r : Int32) (s : St), RF a0 arr s → P r (absM a0 arr s) → Q r s) : w_X12_judge a0 x1 x2 x3 σ Q := by
  unfold p_X12_judge at hp
  unfold w_X12_judge
  refine q_X12_isLot hR hp (fun x51 s52 hR hp => ?_)
  refine ⟨fun c => ?_, fun c => ?_⟩
  · replace hp := hp.1 c
    refine q_X12_arePieces hR hp (fun x54 s55 hR hp => ?_)
    refine ⟨fun c => ?_, fun c => ?_⟩
    · replace hp := hp.1 c
      intro o57 ho57
      rw [hR.ref 19 (by first | decide | assumption)] at ho57
      subst ho57
      refine ⟨arr 19, rfl, ?_⟩
      refine ⟨by rw [hR.len 19 (by first | decide | assumption)]; exact hp.1, ?_⟩
      replace hp := hp.2
      refine ⟨fun c => ?_, fun c => ?_⟩
      · replace hp := hp.1 c
        exact q_X12_judge_47 hq _ _ _ _ _ hR hp
      · replace hp := hp.2 c
        exact q_X12_judge_47 hq _ _ _ _ _ hR hp
    · replace hp := hp.2 c
      exact q_X12_judge_47 hq _ _ _ _ _ hR hp
  · replace hp := hp.2 c
    exact q_X12_judge_47 hq _ _ _ _ _ hR hp
set_option maxRecDepth 100000 in
set_option maxHeartbeats 1000000 in
theorem q_X12_lacks_40 {a0 : Nat} {arr : Nat → Nat} {P : Int32 → MS → Prop} {Q : Int32 → St → Prop} (hq : ∀ (r : Int32) (s : St), RF a0 arr s → P r (absM a0 arr s) → Q r s) : ∀ (x1 : Int32) (x2 : Int32) (xs1 : Int32) (σ : St), RF a0 arr σ → p_X12_lacks_40 P  x1 x2 xs1 (absM a0 arr σ) → w_X12_lacks_40 Q  a0 x1 x2 a0 xs1 σ := by
  intro x1 x2 xs1 σ hR hp
  unfold p_X12_lacks_40 at hp
  unfold w_X12_lacks_40
  refine q_X12_holds hR hp (fun x55 s56 hR hp => ?_)
  refine ⟨fun c => ?_, fun c => ?_⟩
  · replace hp := hp.1 c
    exact hq _ _ hR hp
  · replace hp := hp.2 c
    refine q_X12_lacking hR hp (fun x58 s59 hR hp => ?_)
    exact hq _ _ hR hp
set_option maxRecDepth 100000 in
set_option maxHeartbeats 1000000 in
theorem q_X12_lacks_29 {a0 : Nat} {arr : Nat → Nat} {P : Int32 → MS → Prop} {Q : Int32 → St → Prop} (hq : ∀ (r : Int32) (s : St), RF a0 arr s → P r (absM a0 arr s) → Q r s) : ∀ (x1 : Int32) (x2 : Int32) (xs0 : Int32) (σ : St), RF a0 arr σ → p_X12_lacks_29 P  x1 x2 xs0 (absM a0 arr σ) → w_X12_lacks_29 Q  a0 x1 x2 xs0 σ := by
  intro x1 x2 xs0 σ hR hp
  unfold p_X12_lacks_29 at hp
  unfold w_X12_lacks_29
  refine ⟨fun c => ?_, fun c => ?_⟩
  · replace hp := hp.1 c
    exact q_X12_lacks_40 hq _ _ _ _ hR hp
  · replace hp := hp.2 c
    exact q_X12_lacks_40 hq _ _ _ _ hR hp
set_option maxRecDepth 100000 in
set_option maxHeartbeats 1000000 in
theorem q_X12_lacks_28 {a0 : Nat} {arr : Nat → Nat} {P : Int32 → MS → Prop} {Q : Int32 → St → Prop} (hq : ∀ (r : Int32) (s : St), RF a0 arr s → P r (absM a0 arr s) → Q r s) : ∀ (x1 : Int32) (x2 : Int32) (σ : St), RF a0 arr σ → p_X12_lacks_28 P  x1 x2 (absM a0 arr σ) → w_X12_lacks_28 Q  a0 x1 x2 σ := by
  intro x1 x2 σ hR hp
  unfold p_X12_lacks_28 at hp
  unfold w_X12_lacks_28
  exact q_X12_lacks_29 hq _ _ _ _ hR hp
set_option maxRecDepth 100000 in
set_option maxHeartbeats 1000000 in
theorem q_X12_lacks {a0 : Nat} {arr : Nat → Nat} {σ : St} {x1 : Int32} {x2 : Int32} (hR : RF a0 arr σ) {P : Int32 → MS → Prop} (hp : p_X12_lacks x1 x2 (absM a0 arr σ) P) {Q : Int32 → St → Prop} (hq : ∀ (r : Int32) (s : St), RF a0 arr s → P r (absM a0 arr s) → Q r s) : w_X12_lacks a0 x1 x2 σ Q := by
  unfold p_X12_lacks at hp
  unfold w_X12_lacks
  refine q_X12_isOrder hR hp (fun x51 s52 hR hp => ?_)
  refine ⟨fun c => ?_, fun c => ?_⟩
  · replace hp := hp.1 c
    exact q_X12_lacks_28 hq _ _ _ hR hp
  · replace hp := hp.2 c
    intro o60 ho60
    rw [hR.ref 31 (by first | decide | assumption)] at ho60
    subst ho60
    refine ⟨arr 31, rfl, ?_⟩
    refine ⟨by rw [hR.len 31 (by first | decide | assumption)]; exact hp.1, ?_⟩
    replace hp := hp.2
    refine q_X12_isIn hR hp (fun x63 s64 hR hp => ?_)
    refine ⟨fun c => ?_, fun c => ?_⟩
    · replace hp := hp.1 c
      exact q_X12_lacks_28 hq _ _ _ hR hp
    · replace hp := hp.2 c
      exact q_X12_lacks_29 hq _ _ _ _ hR hp
set_option maxRecDepth 100000 in
set_option maxHeartbeats 1000000 in
theorem q_X12_line_67 {a0 : Nat} {arr : Nat → Nat} {P : Int32 → MS → Prop} {Q : Int32 → St → Prop} (hq : ∀ (r : Int32) (s : St), RF a0 arr s → P r (absM a0 arr s) → Q r s) : ∀ (x1 : Int32) (x2 : Int32) (x3 : Int32) (xs1 : Int32) (σ : St), RF a0 arr σ → p_X12_line_67 P  x1 x2 x3 xs1 (absM a0 arr σ) → w_X12_line_67 Q  a0 x1 x2 x3 a0 xs1 σ := by
  intro x1 x2 x3 xs1 σ hR hp
  unfold p_X12_line_67 at hp
  unfold w_X12_line_67
  refine q_X12_holds hR hp (fun x62 s63 hR hp => ?_)
  refine ⟨fun c => ?_, fun c => ?_⟩
  · replace hp := hp.1 c
    intro o65 ho65
    rw [hR.ref 31 (by first | decide | assumption)] at ho65
    subst ho65
    refine ⟨arr 31, rfl, ?_⟩
    refine ⟨by rw [hR.len 31 (by first | decide | assumption)]; exact hp.1, ?_⟩
    replace hp := hp.2
    intro x68 hx68
    replace hp := hp x68 hx68
    intro o69 ho69
    rw [hR.ref 36 (by first | decide | assumption)] at ho69
    subst ho69
    refine ⟨arr 36, rfl, ?_⟩
    refine ⟨by rw [hR.len 36 (by first | decide | assumption)]; exact hp.1, ?_⟩
    replace hp := hp.2
    intro s72 hs72
    have h2 := abs_setA hR 36 (by first | decide | assumption) hs72
    replace hR := hR.setA hs72
    replace hp := hp _ h2
    clear h2 hs72
    intro o73 ho73
    rw [hR.ref 37 (by first | decide | assumption)] at ho73
    subst ho73
    refine ⟨arr 37, rfl, ?_⟩
    refine ⟨by rw [hR.len 37 (by first | decide | assumption)]; exact hp.1, ?_⟩
    replace hp := hp.2
    intro s76 hs76
    have h2 := abs_setA hR 37 (by first | decide | assumption) hs76
    replace hR := hR.setA hs76
    replace hp := hp _ h2
    clear h2 hs76
    intro o77 ho77
    rw [hR.ref 31 (by first | decide | assumption)] at ho77
    subst ho77
    refine ⟨arr 31, rfl, ?_⟩
    refine ⟨by rw [hR.len 31 (by first | decide | assumption)]; exact hp.1, ?_⟩
    replace hp := hp.2
    refine ⟨by rw [hR.len 31 (by first | decide | assumption)]; exact hp.1, ?_⟩
    replace hp := hp.2
    intro s81 hs81
    have h2 := abs_setA hR 31 (by first | decide | assumption) hs81
    replace hR := hR.setA hs81
    replace hp := hp _ h2
    clear h2 hs81
    intro o82 ho82
    rw [hR.ref 31 (by first | decide | assumption)] at ho82
    subst ho82
    refine ⟨arr 31, rfl, ?_⟩
    refine ⟨by rw [hR.len 31 (by first | decide | assumption)]; exact hp.1, ?_⟩
    replace hp := hp.2
    exact hq _ _ hR hp
  · replace hp := hp.2 c
    exact hq _ _ hR hp
set_option maxRecDepth 100000 in
set_option maxHeartbeats 1000000 in
theorem q_X12_line_20 {a0 : Nat} {arr : Nat → Nat} {P : Int32 → MS → Prop} {Q : Int32 → St → Prop} (hq : ∀ (r : Int32) (s : St), RF a0 arr s → P r (absM a0 arr s) → Q r s) : ∀ (x1 : Int32) (x2 : Int32) (x3 : Int32) (xs0 : Int32) (σ : St), RF a0 arr σ → p_X12_line_20 P  x1 x2 x3 xs0 (absM a0 arr σ) → w_X12_line_20 Q  a0 x1 x2 x3 xs0 σ := by
  intro x1 x2 x3 xs0 σ hR hp
  unfold p_X12_line_20 at hp
  unfold w_X12_line_20
  refine ⟨fun c => ?_, fun c => ?_⟩
  · replace hp := hp.1 c
    refine q_X12_arePieces hR hp (fun x55 s56 hR hp => ?_)
    refine ⟨fun c => ?_, fun c => ?_⟩
    · replace hp := hp.1 c
      intro o58 ho58
      rw [hR.ref 31 (by first | decide | assumption)] at ho58
      subst ho58
      refine ⟨arr 31, rfl, ?_⟩
      refine ⟨by rw [hR.len 31 (by first | decide | assumption)]; exact hp.1, ?_⟩
      replace hp := hp.2
      refine ⟨fun c => ?_, fun c => ?_⟩
      · replace hp := hp.1 c
        exact q_X12_line_67 hq _ _ _ _ _ hR hp
      · replace hp := hp.2 c
        intro o85 ho85
        rw [hR.ref 32 (by first | decide | assumption)] at ho85
        subst ho85
        refine ⟨arr 32, rfl, ?_⟩
        refine ⟨by rw [hR.len 32 (by first | decide | assumption)]; exact hp.1, ?_⟩
        replace hp := hp.2
        refine ⟨fun c => ?_, fun c => ?_⟩
        · replace hp := hp.1 c
          exact q_X12_line_67 hq _ _ _ _ _ hR hp
        · replace hp := hp.2 c
          exact q_X12_line_67 hq _ _ _ _ _ hR hp
    · replace hp := hp.2 c
      exact q_X12_line_67 hq _ _ _ _ _ hR hp
  · replace hp := hp.2 c
    exact q_X12_line_67 hq _ _ _ _ _ hR hp
set_option maxRecDepth 100000 in
set_option maxHeartbeats 1000000 in
theorem q_X12_line_19 {a0 : Nat} {arr : Nat → Nat} {P : Int32 → MS → Prop} {Q : Int32 → St → Prop} (hq : ∀ (r : Int32) (s : St), RF a0 arr s → P r (absM a0 arr s) → Q r s) : ∀ (x1 : Int32) (x2 : Int32) (x3 : Int32) (σ : St), RF a0 arr σ → p_X12_line_19 P  x1 x2 x3 (absM a0 arr σ) → w_X12_line_19 Q  a0 x1 x2 x3 σ := by
  intro x1 x2 x3 σ hR hp
  unfold p_X12_line_19 at hp
  unfold w_X12_line_19
  exact q_X12_line_20 hq _ _ _ _ _ hR hp
set_option maxRecDepth 100000 in
set_option maxHeartbeats 1000000 in
theorem q_X12_line {a0 : Nat} {arr : Nat → Nat} {σ : St} {x1 : Int32} {x2 : Int32} {x3 : Int32} (hR : RF a0 arr σ) {P : Int32 → MS → Prop} (hp : p_X12_line x1 x2 x3 (absM a0 arr σ) P) {Q : Int32 → St → Prop} (hq : ∀ (r : Int32) (s : St), RF a0 arr s → P r (absM a0 arr s) → Q r s) : w_X12_line a0 x1 x2 x3 σ Q := by
  unfold p_X12_line at hp
  unfold w_X12_line
  refine q_X12_isOrder hR hp (fun x51 s52 hR hp => ?_)
  refine ⟨fun c => ?_, fun c => ?_⟩
  · replace hp := hp.1 c
    exact q_X12_line_19 hq _ _ _ _ hR hp
  · replace hp := hp.2 c
    refine q_X12_isItem hR hp (fun x89 s90 hR hp => ?_)
    refine ⟨fun c => ?_, fun c => ?_⟩
    · replace hp := hp.1 c
      exact q_X12_line_19 hq _ _ _ _ hR hp
    · replace hp := hp.2 c
      exact q_X12_line_20 hq _ _ _ _ _ hR hp
set_option maxRecDepth 100000 in
set_option maxHeartbeats 1000000 in
theorem q_X12_lose_44 {a0 : Nat} {arr : Nat → Nat} {P : Int32 → MS → Prop} {Q : Int32 → St → Prop} (hq : ∀ (r : Int32) (s : St), RF a0 arr s → P r (absM a0 arr s) → Q r s) : ∀ (x1 : Int32) (x2 : Int32) (x3 : Int32) (xs1 : Int32) (σ : St), RF a0 arr σ → p_X12_lose_44 P  x1 x2 x3 xs1 (absM a0 arr σ) → w_X12_lose_44 Q  a0 x1 x2 x3 a0 xs1 σ := by
  intro x1 x2 x3 xs1 σ hR hp
  unfold p_X12_lose_44 at hp
  unfold w_X12_lose_44
  refine q_X12_holds hR hp (fun x58 s59 hR hp => ?_)
  refine ⟨fun c => ?_, fun c => ?_⟩
  · replace hp := hp.1 c
    intro o61 ho61
    rw [hR.ref 20 (by first | decide | assumption)] at ho61
    subst ho61
    intro x62 hx62
    replace hp := hp x62 hx62
    refine ⟨arr 20, rfl, ?_⟩
    refine ⟨by rw [hR.len 20 (by first | decide | assumption)]; exact hp.1, ?_⟩
    replace hp := hp.2
    intro o65 ho65
    rw [hR.ref 20 (by first | decide | assumption)] at ho65
    subst ho65
    refine ⟨arr 20, rfl, ?_⟩
    refine ⟨by rw [hR.len 20 (by first | decide | assumption)]; exact hp.1, ?_⟩
    replace hp := hp.2
    refine q_X12_less hR hp (fun x68 s69 hR hp => ?_)
    refine ⟨by rw [hR.len 20 (by first | decide | assumption)]; exact hp.1, ?_⟩
    replace hp := hp.2
    intro s71 hs71
    have h2 := abs_setA hR 20 (by first | decide | assumption) hs71
    replace hR := hR.setA hs71
    replace hp := hp _ h2
    clear h2 hs71
    intro o72 ho72
    rw [hR.ref 20 (by first | decide | assumption)] at ho72
    subst ho72
    refine ⟨arr 20, rfl, ?_⟩
    refine ⟨by rw [hR.len 20 (by first | decide | assumption)]; exact hp.1, ?_⟩
    replace hp := hp.2
    exact hq _ _ hR hp
  · replace hp := hp.2 c
    exact hq _ _ hR hp
set_option maxRecDepth 100000 in
set_option maxHeartbeats 1000000 in
theorem q_X12_lose_20 {a0 : Nat} {arr : Nat → Nat} {P : Int32 → MS → Prop} {Q : Int32 → St → Prop} (hq : ∀ (r : Int32) (s : St), RF a0 arr s → P r (absM a0 arr s) → Q r s) : ∀ (x1 : Int32) (x2 : Int32) (x3 : Int32) (xs0 : Int32) (σ : St), RF a0 arr σ → p_X12_lose_20 P  x1 x2 x3 xs0 (absM a0 arr σ) → w_X12_lose_20 Q  a0 x1 x2 x3 xs0 σ := by
  intro x1 x2 x3 xs0 σ hR hp
  unfold p_X12_lose_20 at hp
  unfold w_X12_lose_20
  refine ⟨fun c => ?_, fun c => ?_⟩
  · replace hp := hp.1 c
    refine q_X12_arePieces hR hp (fun x55 s56 hR hp => ?_)
    refine ⟨fun c => ?_, fun c => ?_⟩
    · replace hp := hp.1 c
      exact q_X12_lose_44 hq _ _ _ _ _ hR hp
    · replace hp := hp.2 c
      exact q_X12_lose_44 hq _ _ _ _ _ hR hp
  · replace hp := hp.2 c
    exact q_X12_lose_44 hq _ _ _ _ _ hR hp
set_option maxRecDepth 100000 in
set_option maxHeartbeats 1000000 in
theorem q_X12_lose_19 {a0 : Nat} {arr : Nat → Nat} {P : Int32 → MS → Prop} {Q : Int32 → St → Prop} (hq : ∀ (r : Int32) (s : St), RF a0 arr s → P r (absM a0 arr s) → Q r s) : ∀ (x1 : Int32) (x2 : Int32) (x3 : Int32) (σ : St), RF a0 arr σ → p_X12_lose_19 P  x1 x2 x3 (absM a0 arr σ) → w_X12_lose_19 Q  a0 x1 x2 x3 σ := by
  intro x1 x2 x3 σ hR hp
  unfold p_X12_lose_19 at hp
  unfold w_X12_lose_19
  exact q_X12_lose_20 hq _ _ _ _ _ hR hp
set_option maxRecDepth 100000 in
set_option maxHeartbeats 1000000 in
theorem q_X12_lose {a0 : Nat} {arr : Nat → Nat} {σ : St} {x1 : Int32} {x2 : Int32} {x3 : Int32} (hR : RF a0 arr σ) {P : Int32 → MS → Prop} (hp : p_X12_lose x1 x2 x3 (absM a0 arr σ) P) {Q : Int32 → St → Prop} (hq : ∀ (r : Int32) (s : St), RF a0 arr s → P r (absM a0 arr s) → Q r s) : w_X12_lose a0 x1 x2 x3 σ Q := by
  unfold p_X12_lose at hp
  unfold w_X12_lose
  refine q_X12_isSlot hR hp (fun x51 s52 hR hp => ?_)
  refine ⟨fun c => ?_, fun c => ?_⟩
  · replace hp := hp.1 c
    exact q_X12_lose_19 hq _ _ _ _ hR hp
  · replace hp := hp.2 c
    refine q_X12_isLot hR hp (fun x75 s76 hR hp => ?_)
    refine ⟨fun c => ?_, fun c => ?_⟩
    · replace hp := hp.1 c
      exact q_X12_lose_19 hq _ _ _ _ hR hp
    · replace hp := hp.2 c
      exact q_X12_lose_20 hq _ _ _ _ _ hR hp
set_option maxRecDepth 100000 in
set_option maxHeartbeats 1000000 in
theorem q_X12_lot_41 {a0 : Nat} {arr : Nat → Nat} {P : Int32 → MS → Prop} {Q : Int32 → St → Prop} (hq : ∀ (r : Int32) (s : St), RF a0 arr s → P r (absM a0 arr s) → Q r s) : ∀ (x1 : Int32) (x2 : Int32) (xs1 : Int32) (σ : St), RF a0 arr σ → p_X12_lot_41 P  x1 x2 xs1 (absM a0 arr σ) → w_X12_lot_41 Q  a0 x1 x2 a0 xs1 σ := by
  intro x1 x2 xs1 σ hR hp
  unfold p_X12_lot_41 at hp
  unfold w_X12_lot_41
  refine q_X12_holds hR hp (fun x58 s59 hR hp => ?_)
  refine ⟨fun c => ?_, fun c => ?_⟩
  · replace hp := hp.1 c
    intro o61 ho61
    rw [hR.ref 16 (by first | decide | assumption)] at ho61
    subst ho61
    refine ⟨arr 16, rfl, ?_⟩
    refine ⟨by rw [hR.len 16 (by first | decide | assumption)]; exact hp.1, ?_⟩
    replace hp := hp.2
    intro s64 hs64
    have h2 := abs_setA hR 16 (by first | decide | assumption) hs64
    replace hR := hR.setA hs64
    replace hp := hp _ h2
    clear h2 hs64
    intro o65 ho65
    rw [hR.ref 17 (by first | decide | assumption)] at ho65
    subst ho65
    refine ⟨arr 17, rfl, ?_⟩
    refine ⟨by rw [hR.len 17 (by first | decide | assumption)]; exact hp.1, ?_⟩
    replace hp := hp.2
    intro s68 hs68
    have h2 := abs_setA hR 17 (by first | decide | assumption) hs68
    replace hR := hR.setA hs68
    replace hp := hp _ h2
    clear h2 hs68
    intro s69 hs69
    have h2 := abs_setI (arr := arr) 15 (by first | decide | assumption) hs69
    replace hR := hR.setI hs69
    replace hp := hp _ h2
    clear h2 hs69
    exact hq _ _ hR hp
  · replace hp := hp.2 c
    exact hq _ _ hR hp
set_option maxRecDepth 100000 in
set_option maxHeartbeats 1000000 in
theorem q_X12_lot {a0 : Nat} {arr : Nat → Nat} {σ : St} {x1 : Int32} {x2 : Int32} (hR : RF a0 arr σ) {P : Int32 → MS → Prop} (hp : p_X12_lot x1 x2 (absM a0 arr σ) P) {Q : Int32 → St → Prop} (hq : ∀ (r : Int32) (s : St), RF a0 arr s → P r (absM a0 arr s) → Q r s) : w_X12_lot a0 x1 x2 σ Q := by
  unfold p_X12_lot at hp
  unfold w_X12_lot
  refine q_X12_isItem hR hp (fun x51 s52 hR hp => ?_)
  refine ⟨fun c => ?_, fun c => ?_⟩
  · replace hp := hp.1 c
    refine q_X12_isIn hR hp (fun x54 s55 hR hp => ?_)
    refine ⟨fun c => ?_, fun c => ?_⟩
    · replace hp := hp.1 c
      refine ⟨fun c => ?_, fun c => ?_⟩
      · replace hp := hp.1 c
        exact q_X12_lot_41 hq _ _ _ _ hR hp
      · replace hp := hp.2 c
        exact q_X12_lot_41 hq _ _ _ _ hR hp
    · replace hp := hp.2 c
      exact q_X12_lot_41 hq _ _ _ _ hR hp
  · replace hp := hp.2 c
    exact q_X12_lot_41 hq _ _ _ _ hR hp
set_option maxRecDepth 100000 in
set_option maxHeartbeats 1000000 in
theorem q_X12_notice_37 {a0 : Nat} {arr : Nat → Nat} {P : Int32 → MS → Prop} {Q : Int32 → St → Prop} (hq : ∀ (r : Int32) (s : St), RF a0 arr s → P r (absM a0 arr s) → Q r s) : ∀ (x1 : Int32) (x2 : Int32) (xs1 : Int32) (σ : St), RF a0 arr σ → p_X12_notice_37 P  x1 x2 xs1 (absM a0 arr σ) → w_X12_notice_37 Q  a0 x1 x2 a0 xs1 σ := by
  intro x1 x2 xs1 σ hR hp
  unfold p_X12_notice_37 at hp
  unfold w_X12_notice_37
  refine q_X12_holds hR hp (fun x58 s59 hR hp => ?_)
  refine ⟨fun c => ?_, fun c => ?_⟩
  · replace hp := hp.1 c
    intro o61 ho61
    rw [hR.ref 23 (by first | decide | assumption)] at ho61
    subst ho61
    refine ⟨arr 23, rfl, ?_⟩
    refine ⟨by rw [hR.len 23 (by first | decide | assumption)]; exact hp.1, ?_⟩
    replace hp := hp.2
    intro s64 hs64
    have h2 := abs_setA hR 23 (by first | decide | assumption) hs64
    replace hR := hR.setA hs64
    replace hp := hp _ h2
    clear h2 hs64
    intro o65 ho65
    rw [hR.ref 24 (by first | decide | assumption)] at ho65
    subst ho65
    refine ⟨arr 24, rfl, ?_⟩
    refine ⟨by rw [hR.len 24 (by first | decide | assumption)]; exact hp.1, ?_⟩
    replace hp := hp.2
    intro s68 hs68
    have h2 := abs_setA hR 24 (by first | decide | assumption) hs68
    replace hR := hR.setA hs68
    replace hp := hp _ h2
    clear h2 hs68
    intro s69 hs69
    have h2 := abs_setI (arr := arr) 22 (by first | decide | assumption) hs69
    replace hR := hR.setI hs69
    replace hp := hp _ h2
    clear h2 hs69
    exact hq _ _ hR hp
  · replace hp := hp.2 c
    exact hq _ _ hR hp
set_option maxRecDepth 100000 in
set_option maxHeartbeats 1000000 in
theorem q_X12_notice {a0 : Nat} {arr : Nat → Nat} {σ : St} {x1 : Int32} {x2 : Int32} (hR : RF a0 arr σ) {P : Int32 → MS → Prop} (hp : p_X12_notice x1 x2 (absM a0 arr σ) P) {Q : Int32 → St → Prop} (hq : ∀ (r : Int32) (s : St), RF a0 arr s → P r (absM a0 arr s) → Q r s) : w_X12_notice a0 x1 x2 σ Q := by
  unfold p_X12_notice at hp
  unfold w_X12_notice
  refine q_X12_isItem hR hp (fun x51 s52 hR hp => ?_)
  refine ⟨fun c => ?_, fun c => ?_⟩
  · replace hp := hp.1 c
    refine q_X12_arePieces hR hp (fun x54 s55 hR hp => ?_)
    refine ⟨fun c => ?_, fun c => ?_⟩
    · replace hp := hp.1 c
      refine ⟨fun c => ?_, fun c => ?_⟩
      · replace hp := hp.1 c
        exact q_X12_notice_37 hq _ _ _ _ hR hp
      · replace hp := hp.2 c
        exact q_X12_notice_37 hq _ _ _ _ hR hp
    · replace hp := hp.2 c
      exact q_X12_notice_37 hq _ _ _ _ hR hp
  · replace hp := hp.2 c
    exact q_X12_notice_37 hq _ _ _ _ hR hp
set_option maxRecDepth 100000 in
set_option maxHeartbeats 1000000 in
theorem q_X12_others_14 {a0 : Nat} {arr : Nat → Nat} {P : Int32 → MS → Prop} {Q : Int32 → St → Prop} (hq : ∀ (r : Int32) (s : St), RF a0 arr s → P r (absM a0 arr s) → Q r s) : ∀ (x1 : Int32) (xs1 : Int32) (σ : St), RF a0 arr σ → p_X12_others_14 P  x1 xs1 (absM a0 arr σ) → w_X12_others_14 Q  a0 x1 a0 xs1 σ := by
  intro x1 xs1 σ hR hp
  unfold p_X12_others_14 at hp
  unfold w_X12_others_14
  refine q_X12_holds hR hp (fun x54 s55 hR hp => ?_)
  refine ⟨fun c => ?_, fun c => ?_⟩
  · replace hp := hp.1 c
    exact hq _ _ hR hp
  · replace hp := hp.2 c
    refine q_X12_cameOf hR hp (fun x57 s58 hR hp => ?_)
    exact hq _ _ hR hp
set_option maxRecDepth 100000 in
set_option maxHeartbeats 1000000 in
theorem q_X12_others {a0 : Nat} {arr : Nat → Nat} {σ : St} {x1 : Int32} (hR : RF a0 arr σ) {P : Int32 → MS → Prop} (hp : p_X12_others x1 (absM a0 arr σ) P) {Q : Int32 → St → Prop} (hq : ∀ (r : Int32) (s : St), RF a0 arr s → P r (absM a0 arr s) → Q r s) : w_X12_others a0 x1 σ Q := by
  unfold p_X12_others at hp
  unfold w_X12_others
  refine q_X12_isNotice hR hp (fun x51 s52 hR hp => ?_)
  refine ⟨fun c => ?_, fun c => ?_⟩
  · replace hp := hp.1 c
    exact q_X12_others_14 hq _ _ _ hR hp
  · replace hp := hp.2 c
    exact q_X12_others_14 hq _ _ _ hR hp
set_option maxRecDepth 100000 in
set_option maxHeartbeats 1000000 in
theorem q_X12_recall_145 {a0 : Nat} {arr : Nat → Nat} {P : Int32 → MS → Prop} {Q : Int32 → St → Prop} (hq : ∀ (r : Int32) (s : St), RF a0 arr s → P r (absM a0 arr s) → Q r s) : ∀ (f : Nat) (x1 : Int32) (x3 : Int32) (x4 : Int32) (σ : St), RF a0 arr σ → p_X12_recall_145 P  f x1 x3 x4 (absM a0 arr σ) → w_X12_recall_145 Q  f a0 x1 x3 x4 σ := by
  intro f
  induction f with
  | zero => intro x1 x3 x4 σ hR hp; exact hp.elim
  | succ f ih =>
    intro x1 x3 x4 σ hR hp
    unfold p_X12_recall_145 at hp
    unfold w_X12_recall_145
    refine ⟨fun c => ?_, fun c => ?_⟩
    · replace hp := hp.1 c
      exact hq _ _ hR hp
    · replace hp := hp.2 c
      intro o70 ho70
      rw [hR.ref 33 (by first | decide | assumption)] at ho70
      subst ho70
      refine ⟨arr 33, rfl, ?_⟩
      refine ⟨by rw [hR.len 33 (by first | decide | assumption)]; exact hp.1, ?_⟩
      replace hp := hp.2
      intro x73 hx73
      replace hp := hp x73 hx73
      exact ih _ _ _ _ hR hp
set_option maxRecDepth 100000 in
set_option maxHeartbeats 1000000 in
theorem q_X12_recall_88 {a0 : Nat} {arr : Nat → Nat} {P : Int32 → MS → Prop} {Q : Int32 → St → Prop} (hq : ∀ (r : Int32) (s : St), RF a0 arr s → P r (absM a0 arr s) → Q r s) : ∀ (f : Nat) (x1 : Int32) (x3 : Int32) (σ : St), RF a0 arr σ → p_X12_recall_88 P  f x1 x3 (absM a0 arr σ) → w_X12_recall_88 Q  f a0 x1 x3 σ := by
  intro f
  induction f with
  | zero => intro x1 x3 σ hR hp; exact hp.elim
  | succ f ih =>
    intro x1 x3 σ hR hp
    unfold p_X12_recall_88 at hp
    unfold w_X12_recall_88
    refine ⟨fun c => ?_, fun c => ?_⟩
    · replace hp := hp.1 c
      refine q_X12_tidies hR hp (fun s68 hR hp => ?_)
      obtain ⟨f74, hp⟩ := hp
      refine ⟨f74, ?_⟩
      exact q_X12_recall_145 hq f74 _ _ _ _ hR hp
    · replace hp := hp.2 c
      refine q_X12_isOn hR hp (fun x75 s76 hR hp => ?_)
      refine ⟨fun c => ?_, fun c => ?_⟩
      · replace hp := hp.1 c
        exact ih _ _ _ hR hp
      · replace hp := hp.2 c
        intro o78 ho78
        rw [hR.ref 46 (by first | decide | assumption)] at ho78
        subst ho78
        refine ⟨arr 46, rfl, ?_⟩
        refine ⟨by rw [hR.len 46 (by first | decide | assumption)]; exact hp.1, ?_⟩
        replace hp := hp.2
        refine ⟨fun c => ?_, fun c => ?_⟩
        · replace hp := hp.1 c
          exact ih _ _ _ hR hp
        · replace hp := hp.2 c
          intro o82 ho82
          rw [hR.ref 47 (by first | decide | assumption)] at ho82
          subst ho82
          refine ⟨arr 47, rfl, ?_⟩
          refine ⟨by rw [hR.len 47 (by first | decide | assumption)]; exact hp.1, ?_⟩
          replace hp := hp.2
          refine ⟨fun c => ?_, fun c => ?_⟩
          · replace hp := hp.1 c
            exact ih _ _ _ hR hp
          · replace hp := hp.2 c
            refine q_X12_ends hR hp (fun s87 hR hp => ?_)
            exact ih _ _ _ hR hp
set_option maxRecDepth 100000 in
set_option maxHeartbeats 1000000 in
theorem q_X12_recall_79 {a0 : Nat} {arr : Nat → Nat} {P : Int32 → MS → Prop} {Q : Int32 → St → Prop} (hq : ∀ (r : Int32) (s : St), RF a0 arr s → P r (absM a0 arr s) → Q r s) {K46 : Nat → Int32 → Int32 → St → Prop} {LK46 : Int32 → Int32 → MS → Prop} (hK46 : ∀ (y1 : Int32) (y2 : Int32) (y3 : St), RF a0 arr y3 → LK46 y1 y2 (absM a0 arr y3) → K46 a0 y1 y2 y3) : ∀ (x1 : Int32) (x3 : Int32) (os0 : Nat) (xs1 : Int32) (xs2 : Int32) (σ : St), RF a0 arr σ → p_X12_recall_79 P LK46 x1 x3 os0 xs1 xs2 (absM a0 arr σ) → w_X12_recall_79 Q K46 a0 x1 x3 (some (arr os0)) xs1 xs2 σ := by
  intro x1 x3 os0 xs1 xs2 σ hR hp
  unfold p_X12_recall_79 at hp
  unfold w_X12_recall_79
  obtain ⟨hAos0, hp⟩ := hp
  refine ⟨arr os0, rfl, ?_⟩
  refine ⟨by rw [hR.len os0 (by first | decide | assumption)]; exact hp.1, ?_⟩
  replace hp := hp.2
  intro s99 hs99
  have h2 := abs_setA hR os0 (by first | decide | assumption) hs99
  replace hR := hR.setA hs99
  replace hp := hp _ h2
  clear h2 hs99
  exact hK46 _ _ _ hR hp
set_option maxRecDepth 100000 in
set_option maxHeartbeats 1000000 in
theorem q_X12_recall_46 {a0 : Nat} {arr : Nat → Nat} {P : Int32 → MS → Prop} {Q : Int32 → St → Prop} (hq : ∀ (r : Int32) (s : St), RF a0 arr s → P r (absM a0 arr s) → Q r s) : ∀ (f : Nat) (x1 : Int32) (x3 : Int32) (σ : St), RF a0 arr σ → p_X12_recall_46 P  f x1 x3 (absM a0 arr σ) → w_X12_recall_46 Q  f a0 x1 x3 σ := by
  intro f
  induction f with
  | zero => intro x1 x3 σ hR hp; exact hp.elim
  | succ f ih =>
    intro x1 x3 σ hR hp
    unfold p_X12_recall_46 at hp
    unfold w_X12_recall_46
    refine ⟨fun c => ?_, fun c => ?_⟩
    · replace hp := hp.1 c
      obtain ⟨f88, hp⟩ := hp
      refine ⟨f88, ?_⟩
      exact q_X12_recall_88 hq f88 _ _ _ hR hp
    · replace hp := hp.2 c
      intro o89 ho89
      rw [hR.ref 43 (by first | decide | assumption)] at ho89
      subst ho89
      intro o90 ho90
      rw [hR.ref 42 (by first | decide | assumption)] at ho90
      subst ho90
      refine ⟨arr 42, rfl, ?_⟩
      refine ⟨by rw [hR.len 42 (by first | decide | assumption)]; exact hp.1, ?_⟩
      replace hp := hp.2
      refine ⟨fun c => ?_, fun c => ?_⟩
      · replace hp := hp.1 c
        intro o94 ho94
        rw [hR.ref 43 (by first | decide | assumption)] at ho94
        subst ho94
        refine ⟨arr 43, rfl, ?_⟩
        refine ⟨by rw [hR.len 43 (by first | decide | assumption)]; exact hp.1, ?_⟩
        replace hp := hp.2
        exact q_X12_recall_79 hq ih _ _ _ _ _ _ hR hp
      · replace hp := hp.2 c
        exact q_X12_recall_79 hq ih _ _ _ _ _ _ hR hp
set_option maxRecDepth 100000 in
set_option maxHeartbeats 1000000 in
theorem q_X12_recall_29 {a0 : Nat} {arr : Nat → Nat} {P : Int32 → MS → Prop} {Q : Int32 → St → Prop} (hq : ∀ (r : Int32) (s : St), RF a0 arr s → P r (absM a0 arr s) → Q r s) : ∀ (x1 : Int32) (xs1 : Int32) (σ : St), RF a0 arr σ → p_X12_recall_29 P  x1 xs1 (absM a0 arr σ) → w_X12_recall_29 Q  a0 x1 a0 xs1 σ := by
  intro x1 xs1 σ hR hp
  unfold p_X12_recall_29 at hp
  unfold w_X12_recall_29
  refine q_X12_holds hR hp (fun x58 s59 hR hp => ?_)
  refine ⟨fun c => ?_, fun c => ?_⟩
  · replace hp := hp.1 c
    intro o61 ho61
    rw [hR.ref 18 (by first | decide | assumption)] at ho61
    subst ho61
    refine ⟨arr 18, rfl, ?_⟩
    refine ⟨by rw [hR.len 18 (by first | decide | assumption)]; exact hp.1, ?_⟩
    replace hp := hp.2
    intro s64 hs64
    have h2 := abs_setA hR 18 (by first | decide | assumption) hs64
    replace hR := hR.setA hs64
    replace hp := hp _ h2
    clear h2 hs64
    obtain ⟨f100, hp⟩ := hp
    refine ⟨f100, ?_⟩
    exact q_X12_recall_46 hq f100 _ _ _ hR hp
  · replace hp := hp.2 c
    exact hq _ _ hR hp
set_option maxRecDepth 100000 in
set_option maxHeartbeats 1000000 in
theorem q_X12_recall {a0 : Nat} {arr : Nat → Nat} {σ : St} {x1 : Int32} (hR : RF a0 arr σ) {P : Int32 → MS → Prop} (hp : p_X12_recall x1 (absM a0 arr σ) P) {Q : Int32 → St → Prop} (hq : ∀ (r : Int32) (s : St), RF a0 arr s → P r (absM a0 arr s) → Q r s) : w_X12_recall a0 x1 σ Q := by
  unfold p_X12_recall at hp
  unfold w_X12_recall
  refine q_X12_isLot hR hp (fun x51 s52 hR hp => ?_)
  refine ⟨fun c => ?_, fun c => ?_⟩
  · replace hp := hp.1 c
    intro o54 ho54
    rw [hR.ref 18 (by first | decide | assumption)] at ho54
    subst ho54
    refine ⟨arr 18, rfl, ?_⟩
    refine ⟨by rw [hR.len 18 (by first | decide | assumption)]; exact hp.1, ?_⟩
    replace hp := hp.2
    refine ⟨fun c => ?_, fun c => ?_⟩
    · replace hp := hp.1 c
      exact q_X12_recall_29 hq _ _ _ hR hp
    · replace hp := hp.2 c
      exact q_X12_recall_29 hq _ _ _ hR hp
  · replace hp := hp.2 c
    exact q_X12_recall_29 hq _ _ _ hR hp
set_option maxRecDepth 100000 in
set_option maxHeartbeats 1000000 in
theorem q_X12_receive_58 {a0 : Nat} {arr : Nat → Nat} {P : Int32 → MS → Prop} {Q : Int32 → St → Prop} (hq : ∀ (r : Int32) (s : St), RF a0 arr s → P r (absM a0 arr s) → Q r s) : ∀ (x1 : Int32) (x2 : Int32) (x3 : Int32) (xs1 : Int32) (σ : St), RF a0 arr σ → p_X12_receive_58 P  x1 x2 x3 xs1 (absM a0 arr σ) → w_X12_receive_58 Q  a0 x1 x2 x3 a0 xs1 σ := by
  intro x1 x2 x3 xs1 σ hR hp
  unfold p_X12_receive_58 at hp
  unfold w_X12_receive_58
  refine q_X12_holds hR hp (fun x62 s63 hR hp => ?_)
  refine ⟨fun c => ?_, fun c => ?_⟩
  · replace hp := hp.1 c
    intro o65 ho65
    rw [hR.ref 26 (by first | decide | assumption)] at ho65
    subst ho65
    intro x66 hx66
    replace hp := hp x66 hx66
    refine ⟨arr 26, rfl, ?_⟩
    refine ⟨by rw [hR.len 26 (by first | decide | assumption)]; exact hp.1, ?_⟩
    replace hp := hp.2
    refine ⟨by rw [hR.len 26 (by first | decide | assumption)]; exact hp.1, ?_⟩
    replace hp := hp.2
    intro s70 hs70
    have h2 := abs_setA hR 26 (by first | decide | assumption) hs70
    replace hR := hR.setA hs70
    replace hp := hp _ h2
    clear h2 hs70
    refine q_X12_books hR hp (fun s72 hR hp => ?_)
    intro s73 hs73
    have h2 := abs_setI (arr := arr) 2 (by first | decide | assumption) hs73
    replace hR := hR.setI hs73
    replace hp := hp _ h2
    clear h2 hs73
    intro o74 ho74
    rw [hR.ref 19 (by first | decide | assumption)] at ho74
    subst ho74
    refine ⟨arr 19, rfl, ?_⟩
    refine ⟨by rw [hR.len 19 (by first | decide | assumption)]; exact hp.1, ?_⟩
    replace hp := hp.2
    exact hq _ _ hR hp
  · replace hp := hp.2 c
    exact hq _ _ hR hp
set_option maxRecDepth 100000 in
set_option maxHeartbeats 1000000 in
theorem q_X12_receive_21 {a0 : Nat} {arr : Nat → Nat} {P : Int32 → MS → Prop} {Q : Int32 → St → Prop} (hq : ∀ (r : Int32) (s : St), RF a0 arr s → P r (absM a0 arr s) → Q r s) : ∀ (x1 : Int32) (x2 : Int32) (x3 : Int32) (xs0 : Int32) (σ : St), RF a0 arr σ → p_X12_receive_21 P  x1 x2 x3 xs0 (absM a0 arr σ) → w_X12_receive_21 Q  a0 x1 x2 x3 xs0 σ := by
  intro x1 x2 x3 xs0 σ hR hp
  unfold p_X12_receive_21 at hp
  unfold w_X12_receive_21
  refine ⟨fun c => ?_, fun c => ?_⟩
  · replace hp := hp.1 c
    refine q_X12_arePieces hR hp (fun x55 s56 hR hp => ?_)
    refine ⟨fun c => ?_, fun c => ?_⟩
    · replace hp := hp.1 c
      intro o58 ho58
      rw [hR.ref 25 (by first | decide | assumption)] at ho58
      subst ho58
      refine ⟨arr 25, rfl, ?_⟩
      refine ⟨by rw [hR.len 25 (by first | decide | assumption)]; exact hp.1, ?_⟩
      replace hp := hp.2
      refine ⟨fun c => ?_, fun c => ?_⟩
      · replace hp := hp.1 c
        exact q_X12_receive_58 hq _ _ _ _ _ hR hp
      · replace hp := hp.2 c
        exact q_X12_receive_58 hq _ _ _ _ _ hR hp
    · replace hp := hp.2 c
      exact q_X12_receive_58 hq _ _ _ _ _ hR hp
  · replace hp := hp.2 c
    exact q_X12_receive_58 hq _ _ _ _ _ hR hp
set_option maxRecDepth 100000 in
set_option maxHeartbeats 1000000 in
theorem q_X12_receive_20 {a0 : Nat} {arr : Nat → Nat} {P : Int32 → MS → Prop} {Q : Int32 → St → Prop} (hq : ∀ (r : Int32) (s : St), RF a0 arr s → P r (absM a0 arr s) → Q r s) : ∀ (x1 : Int32) (x2 : Int32) (x3 : Int32) (σ : St), RF a0 arr σ → p_X12_receive_20 P  x1 x2 x3 (absM a0 arr σ) → w_X12_receive_20 Q  a0 x1 x2 x3 σ := by
  intro x1 x2 x3 σ hR hp
  unfold p_X12_receive_20 at hp
  unfold w_X12_receive_20
  exact q_X12_receive_21 hq _ _ _ _ _ hR hp
set_option maxRecDepth 100000 in
set_option maxHeartbeats 1000000 in
theorem q_X12_receive {a0 : Nat} {arr : Nat → Nat} {σ : St} {x1 : Int32} {x2 : Int32} {x3 : Int32} (hR : RF a0 arr σ) {P : Int32 → MS → Prop} (hp : p_X12_receive x1 x2 x3 (absM a0 arr σ) P) {Q : Int32 → St → Prop} (hq : ∀ (r : Int32) (s : St), RF a0 arr s → P r (absM a0 arr s) → Q r s) : w_X12_receive a0 x1 x2 x3 σ Q := by
  unfold p_X12_receive at hp
  unfold w_X12_receive
  refine q_X12_isNotice hR hp (fun x51 s52 hR hp => ?_)
  refine ⟨fun c => ?_, fun c => ?_⟩
  · replace hp := hp.1 c
    exact q_X12_receive_20 hq _ _ _ _ hR hp
  · replace hp := hp.2 c
    refine q_X12_isLot hR hp (fun x77 s78 hR hp => ?_)
    refine ⟨fun c => ?_, fun c => ?_⟩
    · replace hp := hp.1 c
      exact q_X12_receive_20 hq _ _ _ _ hR hp
    · replace hp := hp.2 c
      exact q_X12_receive_21 hq _ _ _ _ _ hR hp
set_option maxRecDepth 100000 in
set_option maxHeartbeats 1000000 in
theorem q_X12_received_22 {a0 : Nat} {arr : Nat → Nat} {P : Int32 → MS → Prop} {Q : Int32 → St → Prop} (hq : ∀ (r : Int32) (s : St), RF a0 arr s → P r (absM a0 arr s) → Q r s) : ∀ (x1 : Int32) (x2 : Int32) (xs1 : Int32) (σ : St), RF a0 arr σ → p_X12_received_22 P  x1 x2 xs1 (absM a0 arr σ) → w_X12_received_22 Q  a0 x1 x2 a0 xs1 σ := by
  intro x1 x2 xs1 σ hR hp
  unfold p_X12_received_22 at hp
  unfold w_X12_received_22
  refine q_X12_holds hR hp (fun x54 s55 hR hp => ?_)
  refine ⟨fun c => ?_, fun c => ?_⟩
  · replace hp := hp.1 c
    exact hq _ _ hR hp
  · replace hp := hp.2 c
    intro o57 ho57
    rw [hR.ref 26 (by first | decide | assumption)] at ho57
    subst ho57
    refine ⟨arr 26, rfl, ?_⟩
    refine ⟨by rw [hR.len 26 (by first | decide | assumption)]; exact hp.1, ?_⟩
    replace hp := hp.2
    exact hq _ _ hR hp
set_option maxRecDepth 100000 in
set_option maxHeartbeats 1000000 in
theorem q_X12_received_21 {a0 : Nat} {arr : Nat → Nat} {P : Int32 → MS → Prop} {Q : Int32 → St → Prop} (hq : ∀ (r : Int32) (s : St), RF a0 arr s → P r (absM a0 arr s) → Q r s) : ∀ (x1 : Int32) (x2 : Int32) (σ : St), RF a0 arr σ → p_X12_received_21 P  x1 x2 (absM a0 arr σ) → w_X12_received_21 Q  a0 x1 x2 a0 σ := by
  intro x1 x2 σ hR hp
  unfold p_X12_received_21 at hp
  unfold w_X12_received_21
  exact q_X12_received_22 hq _ _ _ _ hR hp
set_option maxRecDepth 100000 in
set_option maxHeartbeats 1000000 in
theorem q_X12_received {a0 : Nat} {arr : Nat → Nat} {σ : St} {x1 : Int32} {x2 : Int32} (hR : RF a0 arr σ) {P : Int32 → MS → Prop} (hp : p_X12_received x1 x2 (absM a0 arr σ) P) {Q : Int32 → St → Prop} (hq : ∀ (r : Int32) (s : St), RF a0 arr s → P r (absM a0 arr s) → Q r s) : w_X12_received a0 x1 x2 σ Q := by
  unfold p_X12_received at hp
  unfold w_X12_received
  refine q_X12_isNotice hR hp (fun x51 s52 hR hp => ?_)
  refine ⟨fun c => ?_, fun c => ?_⟩
  · replace hp := hp.1 c
    exact q_X12_received_21 hq _ _ _ hR hp
  · replace hp := hp.2 c
    refine q_X12_isLot hR hp (fun x60 s61 hR hp => ?_)
    refine ⟨fun c => ?_, fun c => ?_⟩
    · replace hp := hp.1 c
      exact q_X12_received_21 hq _ _ _ hR hp
    · replace hp := hp.2 c
      exact q_X12_received_22 hq _ _ _ _ hR hp
set_option maxRecDepth 100000 in
set_option maxHeartbeats 1000000 in
theorem q_X12_roomLeft_15 {a0 : Nat} {arr : Nat → Nat} {P : Int32 → MS → Prop} {Q : Int32 → St → Prop} (hq : ∀ (r : Int32) (s : St), RF a0 arr s → P r (absM a0 arr s) → Q r s) : ∀ (f : Nat) (x1 : Int32) (x2 : Int32) (x3 : Int32) (σ : St), RF a0 arr σ → p_X12_roomLeft_15 P  f x1 x2 x3 (absM a0 arr σ) → w_X12_roomLeft_15 Q  f a0 x1 x2 x3 σ := by
  intro f
  induction f with
  | zero => intro x1 x2 x3 σ hR hp; exact hp.elim
  | succ f ih =>
    intro x1 x2 x3 σ hR hp
    unfold p_X12_roomLeft_15 at hp
    unfold w_X12_roomLeft_15
    refine ⟨fun c => ?_, fun c => ?_⟩
    · replace hp := hp.1 c
      exact hq _ _ hR hp
    · replace hp := hp.2 c
      intro o58 ho58
      rw [hR.ref 19 (by first | decide | assumption)] at ho58
      subst ho58
      refine ⟨arr 19, rfl, ?_⟩
      refine ⟨by rw [hR.len 19 (by first | decide | assumption)]; exact hp.1, ?_⟩
      replace hp := hp.2
      intro o61 ho61
      rw [hR.ref 10 (by first | decide | assumption)] at ho61
      subst ho61
      intro o62 ho62
      rw [hR.ref 16 (by first | decide | assumption)] at ho62
      subst ho62
      refine ⟨arr 16, rfl, ?_⟩
      refine ⟨by rw [hR.len 16 (by first | decide | assumption)]; exact hp.1, ?_⟩
      replace hp := hp.2
      refine ⟨arr 10, rfl, ?_⟩
      refine ⟨by rw [hR.len 10 (by first | decide | assumption)]; exact hp.1, ?_⟩
      replace hp := hp.2
      intro x67 hx67
      replace hp := hp x67 hx67
      exact ih _ _ _ _ hR hp
set_option maxRecDepth 100000 in
set_option maxHeartbeats 1000000 in
theorem q_X12_roomLeft {a0 : Nat} {arr : Nat → Nat} {σ : St} {x1 : Int32} (hR : RF a0 arr σ) {P : Int32 → MS → Prop} (hp : p_X12_roomLeft x1 (absM a0 arr σ) P) {Q : Int32 → St → Prop} (hq : ∀ (r : Int32) (s : St), RF a0 arr s → P r (absM a0 arr s) → Q r s) : w_X12_roomLeft a0 x1 σ Q := by
  unfold p_X12_roomLeft at hp
  unfold w_X12_roomLeft
  intro o51 ho51
  rw [hR.ref 5 (by first | decide | assumption)] at ho51
  subst ho51
  refine ⟨arr 5, rfl, ?_⟩
  refine ⟨by rw [hR.len 5 (by first | decide | assumption)]; exact hp.1, ?_⟩
  replace hp := hp.2
  refine q_X12_roomHeld hR hp (fun x54 s55 hR hp => ?_)
  intro x56 hx56
  replace hp := hp x56 hx56
  obtain ⟨f68, hp⟩ := hp
  refine ⟨f68, ?_⟩
  exact q_X12_roomLeft_15 hq f68 _ _ _ _ hR hp
set_option maxRecDepth 100000 in
set_option maxHeartbeats 1000000 in
theorem q_X12_send_245 {a0 : Nat} {arr : Nat → Nat} {P : Int32 → MS → Prop} {Q : Int32 → St → Prop} (hq : ∀ (r : Int32) (s : St), RF a0 arr s → P r (absM a0 arr s) → Q r s) : ∀ (f : Nat) (x1 : Int32) (x3 : Int32) (x4 : Int32) (σ : St), RF a0 arr σ → p_X12_send_245 P  f x1 x3 x4 (absM a0 arr σ) → w_X12_send_245 Q  f a0 x1 x3 x4 σ := by
  intro f
  induction f with
  | zero => intro x1 x3 x4 σ hR hp; exact hp.elim
  | succ f ih =>
    intro x1 x3 x4 σ hR hp
    unfold p_X12_send_245 at hp
    unfold w_X12_send_245
    refine ⟨fun c => ?_, fun c => ?_⟩
    · replace hp := hp.1 c
      refine q_X12_tidies hR hp (fun s83 hR hp => ?_)
      exact hq _ _ hR hp
    · replace hp := hp.2 c
      refine q_X12_isOn hR hp (fun x84 s85 hR hp => ?_)
      refine ⟨fun c => ?_, fun c => ?_⟩
      · replace hp := hp.1 c
        exact ih _ _ _ _ hR hp
      · replace hp := hp.2 c
        intro o87 ho87
        rw [hR.ref 46 (by first | decide | assumption)] at ho87
        subst ho87
        refine ⟨arr 46, rfl, ?_⟩
        refine ⟨by rw [hR.len 46 (by first | decide | assumption)]; exact hp.1, ?_⟩
        replace hp := hp.2
        refine ⟨fun c => ?_, fun c => ?_⟩
        · replace hp := hp.1 c
          exact ih _ _ _ _ hR hp
        · replace hp := hp.2 c
          intro o91 ho91
          rw [hR.ref 50 (by first | decide | assumption)] at ho91
          subst ho91
          refine ⟨arr 50, rfl, ?_⟩
          refine ⟨by rw [hR.len 50 (by first | decide | assumption)]; exact hp.1, ?_⟩
          replace hp := hp.2
          refine ⟨fun c => ?_, fun c => ?_⟩
          · replace hp := hp.1 c
            exact ih _ _ _ _ hR hp
          · replace hp := hp.2 c
            refine q_X12_ends hR hp (fun s96 hR hp => ?_)
            exact ih _ _ _ _ hR hp
set_option maxRecDepth 100000 in
set_option maxHeartbeats 1000000 in
theorem q_X12_send_235 {a0 : Nat} {arr : Nat → Nat} {P : Int32 → MS → Prop} {Q : Int32 → St → Prop} (hq : ∀ (r : Int32) (s : St), RF a0 arr s → P r (absM a0 arr s) → Q r s) {K196 : Nat → Int32 → Int32 → Int32 → St → Prop} {LK196 : Int32 → Int32 → Int32 → MS → Prop} (hK196 : ∀ (y1 : Int32) (y2 : Int32) (y3 : Int32) (y4 : St), RF a0 arr y4 → LK196 y1 y2 y3 (absM a0 arr y4) → K196 a0 y1 y2 y3 y4) : ∀ (x1 : Int32) (x3 : Int32) (x4 : Int32) (os0 : Nat) (xs1 : Int32) (xs2 : Int32) (σ : St), RF a0 arr σ → p_X12_send_235 P LK196 x1 x3 x4 os0 xs1 xs2 (absM a0 arr σ) → w_X12_send_235 Q K196 a0 x1 x3 x4 (some (arr os0)) xs1 xs2 σ := by
  intro x1 x3 x4 os0 xs1 xs2 σ hR hp
  unfold p_X12_send_235 at hp
  unfold w_X12_send_235
  obtain ⟨hAos0, hp⟩ := hp
  refine ⟨arr os0, rfl, ?_⟩
  refine ⟨by rw [hR.len os0 (by first | decide | assumption)]; exact hp.1, ?_⟩
  replace hp := hp.2
  intro s108 hs108
  have h2 := abs_setA hR os0 (by first | decide | assumption) hs108
  replace hR := hR.setA hs108
  replace hp := hp _ h2
  clear h2 hs108
  exact hK196 _ _ _ _ hR hp
set_option maxRecDepth 100000 in
set_option maxHeartbeats 1000000 in
theorem q_X12_send_196 {a0 : Nat} {arr : Nat → Nat} {P : Int32 → MS → Prop} {Q : Int32 → St → Prop} (hq : ∀ (r : Int32) (s : St), RF a0 arr s → P r (absM a0 arr s) → Q r s) : ∀ (f : Nat) (x1 : Int32) (x3 : Int32) (x4 : Int32) (σ : St), RF a0 arr σ → p_X12_send_196 P  f x1 x3 x4 (absM a0 arr σ) → w_X12_send_196 Q  f a0 x1 x3 x4 σ := by
  intro f
  induction f with
  | zero => intro x1 x3 x4 σ hR hp; exact hp.elim
  | succ f ih =>
    intro x1 x3 x4 σ hR hp
    unfold p_X12_send_196 at hp
    unfold w_X12_send_196
    refine ⟨fun c => ?_, fun c => ?_⟩
    · replace hp := hp.1 c
      obtain ⟨f97, hp⟩ := hp
      refine ⟨f97, ?_⟩
      exact q_X12_send_245 hq f97 _ _ _ _ hR hp
    · replace hp := hp.2 c
      intro o98 ho98
      rw [hR.ref 43 (by first | decide | assumption)] at ho98
      subst ho98
      intro o99 ho99
      rw [hR.ref 40 (by first | decide | assumption)] at ho99
      subst ho99
      refine ⟨arr 40, rfl, ?_⟩
      refine ⟨by rw [hR.len 40 (by first | decide | assumption)]; exact hp.1, ?_⟩
      replace hp := hp.2
      refine ⟨fun c => ?_, fun c => ?_⟩
      · replace hp := hp.1 c
        intro o103 ho103
        rw [hR.ref 43 (by first | decide | assumption)] at ho103
        subst ho103
        refine ⟨arr 43, rfl, ?_⟩
        refine ⟨by rw [hR.len 43 (by first | decide | assumption)]; exact hp.1, ?_⟩
        replace hp := hp.2
        exact q_X12_send_235 hq ih _ _ _ _ _ _ _ hR hp
      · replace hp := hp.2 c
        exact q_X12_send_235 hq ih _ _ _ _ _ _ _ hR hp
set_option maxRecDepth 100000 in
set_option maxHeartbeats 1000000 in
theorem q_X12_send_122 {a0 : Nat} {arr : Nat → Nat} {P : Int32 → MS → Prop} {Q : Int32 → St → Prop} (hq : ∀ (r : Int32) (s : St), RF a0 arr s → P r (absM a0 arr s) → Q r s) : ∀ (f : Nat) (x1 : Int32) (x3 : Int32) (x4 : Int32) (σ : St), RF a0 arr σ → p_X12_send_122 P  f x1 x3 x4 (absM a0 arr σ) → w_X12_send_122 Q  f a0 x1 x3 x4 σ := by
  intro f
  induction f with
  | zero => intro x1 x3 x4 σ hR hp; exact hp.elim
  | succ f ih =>
    intro x1 x3 x4 σ hR hp
    unfold p_X12_send_122 at hp
    unfold w_X12_send_122
    refine ⟨fun c => ?_, fun c => ?_⟩
    · replace hp := hp.1 c
      intro o76 ho76
      rw [hR.ref 32 (by first | decide | assumption)] at ho76
      subst ho76
      refine ⟨arr 32, rfl, ?_⟩
      refine ⟨by rw [hR.len 32 (by first | decide | assumption)]; exact hp.1, ?_⟩
      replace hp := hp.2
      intro s79 hs79
      have h2 := abs_setA hR 32 (by first | decide | assumption) hs79
      replace hR := hR.setA hs79
      replace hp := hp _ h2
      clear h2 hs79
      obtain ⟨f109, hp⟩ := hp
      refine ⟨f109, ?_⟩
      exact q_X12_send_196 hq f109 _ _ _ _ hR hp
    · replace hp := hp.2 c
      intro o110 ho110
      rw [hR.ref 19 (by first | decide | assumption)] at ho110
      subst ho110
      refine ⟨arr 19, rfl, ?_⟩
      refine ⟨by rw [hR.len 19 (by first | decide | assumption)]; exact hp.1, ?_⟩
      replace hp := hp.2
      intro x113 hx113
      replace hp := hp x113 hx113
      intro o114 ho114
      rw [hR.ref 33 (by first | decide | assumption)] at ho114
      subst ho114
      refine ⟨arr 33, rfl, ?_⟩
      refine ⟨by rw [hR.len 33 (by first | decide | assumption)]; exact hp.1, ?_⟩
      replace hp := hp.2
      intro s117 hs117
      have h2 := abs_setA hR 33 (by first | decide | assumption) hs117
      replace hR := hR.setA hs117
      replace hp := hp _ h2
      clear h2 hs117
      refine q_X12_books hR hp (fun s119 hR hp => ?_)
      intro x120 hx120
      replace hp := hp x120 hx120
      exact ih _ _ _ _ hR hp
set_option maxRecDepth 100000 in
set_option maxHeartbeats 1000000 in
theorem q_X12_send_70 {a0 : Nat} {arr : Nat → Nat} {P : Int32 → MS → Prop} {Q : Int32 → St → Prop} (hq : ∀ (r : Int32) (s : St), RF a0 arr s → P r (absM a0 arr s) → Q r s) : ∀ (f : Nat) (x1 : Int32) (x3 : Int32) (x4 : Int32) (σ : St), RF a0 arr σ → p_X12_send_70 P  f x1 x3 x4 (absM a0 arr σ) → w_X12_send_70 Q  f a0 x1 x3 x4 σ := by
  intro f
  induction f with
  | zero => intro x1 x3 x4 σ hR hp; exact hp.elim
  | succ f ih =>
    intro x1 x3 x4 σ hR hp
    unfold p_X12_send_70 at hp
    unfold w_X12_send_70
    intro o71 ho71
    rw [hR.ref 35 (by first | decide | assumption)] at ho71
    subst ho71
    refine ⟨arr 35, rfl, ?_⟩
    refine ⟨by rw [hR.len 35 (by first | decide | assumption)]; exact hp.1, ?_⟩
    replace hp := hp.2
    refine ⟨fun c => ?_, fun c => ?_⟩
    · replace hp := hp.1 c
      obtain ⟨f121, hp⟩ := hp
      refine ⟨f121, ?_⟩
      exact q_X12_send_122 hq f121 _ _ _ _ hR hp
    · replace hp := hp.2 c
      intro o122 ho122
      rw [hR.ref 34 (by first | decide | assumption)] at ho122
      subst ho122
      intro o123 ho123
      rw [hR.ref 62 (by first | decide | assumption)] at ho123
      subst ho123
      refine ⟨arr 62, rfl, ?_⟩
      refine ⟨by rw [hR.len 62 (by first | decide | assumption)]; exact hp.1, ?_⟩
      replace hp := hp.2
      intro o126 ho126
      rw [hR.ref 63 (by first | decide | assumption)] at ho126
      subst ho126
      refine ⟨arr 63, rfl, ?_⟩
      refine ⟨by rw [hR.len 63 (by first | decide | assumption)]; exact hp.1, ?_⟩
      replace hp := hp.2
      refine ⟨arr 34, rfl, ?_⟩
      refine ⟨by rw [hR.len 34 (by first | decide | assumption)]; exact hp.1, ?_⟩
      replace hp := hp.2
      intro s131 hs131
      have h2 := abs_setA hR 34 (by first | decide | assumption) hs131
      replace hR := hR.setA hs131
      replace hp := hp _ h2
      clear h2 hs131
      exact ih _ _ _ _ hR hp
set_option maxRecDepth 100000 in
set_option maxHeartbeats 1000000 in
theorem q_X12_send_29 {a0 : Nat} {arr : Nat → Nat} {P : Int32 → MS → Prop} {Q : Int32 → St → Prop} (hq : ∀ (r : Int32) (s : St), RF a0 arr s → P r (absM a0 arr s) → Q r s) : ∀ (x1 : Int32) (xs1 : Int32) (σ : St), RF a0 arr σ → p_X12_send_29 P  x1 xs1 (absM a0 arr σ) → w_X12_send_29 Q  a0 x1 a0 xs1 σ := by
  intro x1 xs1 σ hR hp
  unfold p_X12_send_29 at hp
  unfold w_X12_send_29
  refine q_X12_holds hR hp (fun x58 s59 hR hp => ?_)
  refine ⟨fun c => ?_, fun c => ?_⟩
  · replace hp := hp.1 c
    intro o61 ho61
    rw [hR.ref 35 (by first | decide | assumption)] at ho61
    subst ho61
    refine q_X12_packs hR hp (fun x62 s63 hR hp => ?_)
    refine ⟨arr 35, rfl, ?_⟩
    refine ⟨by rw [hR.len 35 (by first | decide | assumption)]; exact hp.1, ?_⟩
    replace hp := hp.2
    intro s66 hs66
    have h2 := abs_setA hR 35 (by first | decide | assumption) hs66
    replace hR := hR.setA hs66
    replace hp := hp _ h2
    clear h2 hs66
    intro o67 ho67
    rw [hR.ref 35 (by first | decide | assumption)] at ho67
    subst ho67
    refine ⟨arr 35, rfl, ?_⟩
    refine ⟨by rw [hR.len 35 (by first | decide | assumption)]; exact hp.1, ?_⟩
    replace hp := hp.2
    intro s70 hs70
    have h2 := abs_setI (arr := arr) 2 (by first | decide | assumption) hs70
    replace hR := hR.setI hs70
    replace hp := hp _ h2
    clear h2 hs70
    obtain ⟨f132, hp⟩ := hp
    refine ⟨f132, ?_⟩
    exact q_X12_send_70 hq f132 _ _ _ _ hR hp
  · replace hp := hp.2 c
    exact hq _ _ hR hp
set_option maxRecDepth 100000 in
set_option maxHeartbeats 1000000 in
theorem q_X12_send {a0 : Nat} {arr : Nat → Nat} {σ : St} {x1 : Int32} (hR : RF a0 arr σ) {P : Int32 → MS → Prop} (hp : p_X12_send x1 (absM a0 arr σ) P) {Q : Int32 → St → Prop} (hq : ∀ (r : Int32) (s : St), RF a0 arr s → P r (absM a0 arr s) → Q r s) : w_X12_send a0 x1 σ Q := by
  unfold p_X12_send at hp
  unfold w_X12_send
  refine q_X12_isOrder hR hp (fun x51 s52 hR hp => ?_)
  refine ⟨fun c => ?_, fun c => ?_⟩
  · replace hp := hp.1 c
    intro o54 ho54
    rw [hR.ref 32 (by first | decide | assumption)] at ho54
    subst ho54
    refine ⟨arr 32, rfl, ?_⟩
    refine ⟨by rw [hR.len 32 (by first | decide | assumption)]; exact hp.1, ?_⟩
    replace hp := hp.2
    refine ⟨fun c => ?_, fun c => ?_⟩
    · replace hp := hp.1 c
      exact q_X12_send_29 hq _ _ _ hR hp
    · replace hp := hp.2 c
      exact q_X12_send_29 hq _ _ _ hR hp
  · replace hp := hp.2 c
    exact q_X12_send_29 hq _ _ _ hR hp
set_option maxRecDepth 100000 in
set_option maxHeartbeats 1000000 in
theorem q_X12_sent_22 {a0 : Nat} {arr : Nat → Nat} {P : Int32 → MS → Prop} {Q : Int32 → St → Prop} (hq : ∀ (r : Int32) (s : St), RF a0 arr s → P r (absM a0 arr s) → Q r s) : ∀ (x1 : Int32) (x2 : Int32) (xs1 : Int32) (σ : St), RF a0 arr σ → p_X12_sent_22 P  x1 x2 xs1 (absM a0 arr σ) → w_X12_sent_22 Q  a0 x1 x2 a0 xs1 σ := by
  intro x1 x2 xs1 σ hR hp
  unfold p_X12_sent_22 at hp
  unfold w_X12_sent_22
  refine q_X12_holds hR hp (fun x54 s55 hR hp => ?_)
  refine ⟨fun c => ?_, fun c => ?_⟩
  · replace hp := hp.1 c
    exact hq _ _ hR hp
  · replace hp := hp.2 c
    intro o57 ho57
    rw [hR.ref 33 (by first | decide | assumption)] at ho57
    subst ho57
    refine ⟨arr 33, rfl, ?_⟩
    refine ⟨by rw [hR.len 33 (by first | decide | assumption)]; exact hp.1, ?_⟩
    replace hp := hp.2
    exact hq _ _ hR hp
set_option maxRecDepth 100000 in
set_option maxHeartbeats 1000000 in
theorem q_X12_sent_21 {a0 : Nat} {arr : Nat → Nat} {P : Int32 → MS → Prop} {Q : Int32 → St → Prop} (hq : ∀ (r : Int32) (s : St), RF a0 arr s → P r (absM a0 arr s) → Q r s) : ∀ (x1 : Int32) (x2 : Int32) (σ : St), RF a0 arr σ → p_X12_sent_21 P  x1 x2 (absM a0 arr σ) → w_X12_sent_21 Q  a0 x1 x2 a0 σ := by
  intro x1 x2 σ hR hp
  unfold p_X12_sent_21 at hp
  unfold w_X12_sent_21
  exact q_X12_sent_22 hq _ _ _ _ hR hp
set_option maxRecDepth 100000 in
set_option maxHeartbeats 1000000 in
theorem q_X12_sent {a0 : Nat} {arr : Nat → Nat} {σ : St} {x1 : Int32} {x2 : Int32} (hR : RF a0 arr σ) {P : Int32 → MS → Prop} (hp : p_X12_sent x1 x2 (absM a0 arr σ) P) {Q : Int32 → St → Prop} (hq : ∀ (r : Int32) (s : St), RF a0 arr s → P r (absM a0 arr s) → Q r s) : w_X12_sent a0 x1 x2 σ Q := by
  unfold p_X12_sent at hp
  unfold w_X12_sent
  refine q_X12_isOrder hR hp (fun x51 s52 hR hp => ?_)
  refine ⟨fun c => ?_, fun c => ?_⟩
  · replace hp := hp.1 c
    exact q_X12_sent_21 hq _ _ _ hR hp
  · replace hp := hp.2 c
    refine q_X12_isLot hR hp (fun x60 s61 hR hp => ?_)
    refine ⟨fun c => ?_, fun c => ?_⟩
    · replace hp := hp.1 c
      exact q_X12_sent_21 hq _ _ _ hR hp
    · replace hp := hp.2 c
      exact q_X12_sent_22 hq _ _ _ _ hR hp
set_option maxRecDepth 100000 in
set_option maxHeartbeats 1000000 in
theorem q_X12_shorts_206 {a0 : Nat} {arr : Nat → Nat} {P : MS → Prop} {Q : St → Prop} (hq : ∀ (s : St), RF a0 arr s → P (absM a0 arr s) → Q s) : ∀ (f : Nat) (x1 : Int32) (x2 : Int32) (x4 : Int32) (x5 : Int32) (x6 : Int32) (σ : St), RF a0 arr σ → p_X12_shorts_206 P  f x1 x2 x4 x5 x6 (absM a0 arr σ) → w_X12_shorts_206 Q  f a0 x1 x2 x4 x5 x6 σ := by
  intro f
  induction f with
  | zero => intro x1 x2 x4 x5 x6 σ hR hp; exact hp.elim
  | succ f ih =>
    intro x1 x2 x4 x5 x6 σ hR hp
    unfold p_X12_shorts_206 at hp
    unfold w_X12_shorts_206
    refine ⟨fun c => ?_, fun c => ?_⟩
    · replace hp := hp.1 c
      exact hq _ hR hp
    · replace hp := hp.2 c
      refine ⟨fun c => ?_, fun c => ?_⟩
      · replace hp := hp.1 c
        exact ih _ _ _ _ _ _ hR hp
      · replace hp := hp.2 c
        refine q_X12_isOn hR hp (fun x64 s65 hR hp => ?_)
        refine ⟨fun c => ?_, fun c => ?_⟩
        · replace hp := hp.1 c
          exact ih _ _ _ _ _ _ hR hp
        · replace hp := hp.2 c
          intro o67 ho67
          rw [hR.ref 46 (by first | decide | assumption)] at ho67
          subst ho67
          refine ⟨arr 46, rfl, ?_⟩
          refine ⟨by rw [hR.len 46 (by first | decide | assumption)]; exact hp.1, ?_⟩
          replace hp := hp.2
          refine ⟨fun c => ?_, fun c => ?_⟩
          · replace hp := hp.1 c
            exact ih _ _ _ _ _ _ hR hp
          · replace hp := hp.2 c
            intro o71 ho71
            rw [hR.ref 48 (by first | decide | assumption)] at ho71
            subst ho71
            refine ⟨arr 48, rfl, ?_⟩
            refine ⟨by rw [hR.len 48 (by first | decide | assumption)]; exact hp.1, ?_⟩
            replace hp := hp.2
            refine ⟨fun c => ?_, fun c => ?_⟩
            · replace hp := hp.1 c
              exact ih _ _ _ _ _ _ hR hp
            · replace hp := hp.2 c
              intro o75 ho75
              rw [hR.ref 47 (by first | decide | assumption)] at ho75
              subst ho75
              refine ⟨arr 47, rfl, ?_⟩
              refine ⟨by rw [hR.len 47 (by first | decide | assumption)]; exact hp.1, ?_⟩
              replace hp := hp.2
              refine ⟨fun c => ?_, fun c => ?_⟩
              · replace hp := hp.1 c
                exact ih _ _ _ _ _ _ hR hp
              · replace hp := hp.2 c
                refine q_X12_keeps hR hp (fun x79 s80 hR hp => ?_)
                intro x81 hx81
                replace hp := hp x81 hx81
                exact ih _ _ _ _ _ _ hR hp
set_option maxRecDepth 100000 in
set_option maxHeartbeats 1000000 in
theorem q_X12_shorts_87 {a0 : Nat} {arr : Nat → Nat} {P : MS → Prop} {Q : St → Prop} (hq : ∀ (s : St), RF a0 arr s → P (absM a0 arr s) → Q s) {K43 : Nat → Int32 → Int32 → Int32 → Int32 → Int32 → St → Prop} {LK43 : Int32 → Int32 → Int32 → Int32 → Int32 → MS → Prop} (hK43 : ∀ (y1 : Int32) (y2 : Int32) (y3 : Int32) (y4 : Int32) (y5 : Int32) (y6 : St), RF a0 arr y6 → LK43 y1 y2 y3 y4 y5 (absM a0 arr y6) → K43 a0 y1 y2 y3 y4 y5 y6) : ∀ (x1 : Int32) (x2 : Int32) (x4 : Int32) (x5 : Int32) (x6 : Int32) (x7 : Int32) (xs0 : Int32) (σ : St), RF a0 arr σ → p_X12_shorts_87 P LK43 x1 x2 x4 x5 x6 x7 xs0 (absM a0 arr σ) → w_X12_shorts_87 Q K43 a0 x1 x2 x4 x5 x6 x7 xs0 σ := by
  intro x1 x2 x4 x5 x6 x7 xs0 σ hR hp
  unfold p_X12_shorts_87 at hp
  unfold w_X12_shorts_87
  intro o86 ho86
  rw [hR.ref 40 (by first | decide | assumption)] at ho86
  subst ho86
  refine ⟨arr 40, rfl, ?_⟩
  refine ⟨by rw [hR.len 40 (by first | decide | assumption)]; exact hp.1, ?_⟩
  replace hp := hp.2
  refine ⟨hp.1, ?_⟩
  replace hp := hp.2
  refine ⟨fun c => ?_, fun c => ?_⟩
  · replace hp := hp.1 c
    exact hK43 _ _ _ _ _ _ hR hp
  · replace hp := hp.2 c
    intro o91 ho91
    rw [hR.ref 41 (by first | decide | assumption)] at ho91
    subst ho91
    refine ⟨arr 41, rfl, ?_⟩
    refine ⟨by rw [hR.len 41 (by first | decide | assumption)]; exact hp.1, ?_⟩
    replace hp := hp.2
    refine ⟨fun c => ?_, fun c => ?_⟩
    · replace hp := hp.1 c
      exact hK43 _ _ _ _ _ _ hR hp
    · replace hp := hp.2 c
      intro o95 ho95
      rw [hR.ref 42 (by first | decide | assumption)] at ho95
      subst ho95
      refine ⟨arr 42, rfl, ?_⟩
      refine ⟨by rw [hR.len 42 (by first | decide | assumption)]; exact hp.1, ?_⟩
      replace hp := hp.2
      refine ⟨fun c => ?_, fun c => ?_⟩
      · replace hp := hp.1 c
        exact hK43 _ _ _ _ _ _ hR hp
      · replace hp := hp.2 c
        refine ⟨fun c => ?_, fun c => ?_⟩
        · replace hp := hp.1 c
          exact hK43 _ _ _ _ _ _ hR hp
        · replace hp := hp.2 c
          intro o100 ho100
          rw [hR.ref 43 (by first | decide | assumption)] at ho100
          subst ho100
          intro o101 ho101
          rw [hR.ref 43 (by first | decide | assumption)] at ho101
          subst ho101
          refine ⟨arr 43, rfl, ?_⟩
          refine ⟨by rw [hR.len 43 (by first | decide | assumption)]; exact hp.1, ?_⟩
          replace hp := hp.2
          refine q_X12_less hR hp (fun x104 s105 hR hp => ?_)
          refine ⟨arr 43, rfl, ?_⟩
          refine ⟨by rw [hR.len 43 (by first | decide | assumption)]; exact hp.1, ?_⟩
          replace hp := hp.2
          intro s108 hs108
          have h2 := abs_setA hR 43 (by first | decide | assumption) hs108
          replace hR := hR.setA hs108
          replace hp := hp _ h2
          clear h2 hs108
          intro o109 ho109
          rw [hR.ref 43 (by first | decide | assumption)] at ho109
          subst ho109
          refine ⟨arr 43, rfl, ?_⟩
          refine ⟨by rw [hR.len 43 (by first | decide | assumption)]; exact hp.1, ?_⟩
          replace hp := hp.2
          intro x112 hx112
          replace hp := hp x112 hx112
          intro o113 ho113
          rw [hR.ref 44 (by first | decide | assumption)] at ho113
          subst ho113
          refine ⟨arr 44, rfl, ?_⟩
          refine ⟨by rw [hR.len 44 (by first | decide | assumption)]; exact hp.1, ?_⟩
          replace hp := hp.2
          refine ⟨fun c => ?_, fun c => ?_⟩
          · replace hp := hp.1 c
            exact hK43 _ _ _ _ _ _ hR hp
          · replace hp := hp.2 c
            intro o117 ho117
            rw [hR.ref 44 (by first | decide | assumption)] at ho117
            subst ho117
            refine ⟨arr 44, rfl, ?_⟩
            refine ⟨by rw [hR.len 44 (by first | decide | assumption)]; exact hp.1, ?_⟩
            replace hp := hp.2
            intro o120 ho120
            rw [hR.ref 43 (by first | decide | assumption)] at ho120
            subst ho120
            refine ⟨arr 43, rfl, ?_⟩
            refine ⟨by rw [hR.len 43 (by first | decide | assumption)]; exact hp.1, ?_⟩
            replace hp := hp.2
            refine q_X12_keeps hR hp (fun x123 s124 hR hp => ?_)
            exact hK43 _ _ _ _ _ _ hR hp
set_option maxRecDepth 100000 in
set_option maxHeartbeats 1000000 in
theorem q_X12_shorts_43 {a0 : Nat} {arr : Nat → Nat} {P : MS → Prop} {Q : St → Prop} (hq : ∀ (s : St), RF a0 arr s → P (absM a0 arr s) → Q s) : ∀ (f : Nat) (x1 : Int32) (x2 : Int32) (x4 : Int32) (x5 : Int32) (x6 : Int32) (σ : St), RF a0 arr σ → p_X12_shorts_43 P  f x1 x2 x4 x5 x6 (absM a0 arr σ) → w_X12_shorts_43 Q  f a0 x1 x2 x4 x5 x6 σ := by
  intro f
  induction f with
  | zero => intro x1 x2 x4 x5 x6 σ hR hp; exact hp.elim
  | succ f ih =>
    intro x1 x2 x4 x5 x6 σ hR hp
    unfold p_X12_shorts_43 at hp
    unfold w_X12_shorts_43
    refine ⟨fun c => ?_, fun c => ?_⟩
    · replace hp := hp.1 c
      obtain ⟨f82, hp⟩ := hp
      refine ⟨f82, ?_⟩
      exact q_X12_shorts_206 hq f82 _ _ _ _ _ _ hR hp
    · replace hp := hp.2 c
      refine ⟨hp.1, ?_⟩
      replace hp := hp.2
      intro x84 hx84
      replace hp := hp x84 hx84
      refine ⟨fun c => ?_, fun c => ?_⟩
      · replace hp := hp.1 c
        exact q_X12_shorts_87 hq ih _ _ _ _ _ _ _ _ hR hp
      · replace hp := hp.2 c
        intro o125 ho125
        rw [hR.ref 44 (by first | decide | assumption)] at ho125
        subst ho125
        refine ⟨arr 44, rfl, ?_⟩
        refine ⟨by rw [hR.len 44 (by first | decide | assumption)]; exact hp.1, ?_⟩
        replace hp := hp.2
        refine ⟨fun c => ?_, fun c => ?_⟩
        · replace hp := hp.1 c
          exact q_X12_shorts_87 hq ih _ _ _ _ _ _ _ _ hR hp
        · replace hp := hp.2 c
          exact q_X12_shorts_87 hq ih _ _ _ _ _ _ _ _ hR hp
set_option maxRecDepth 100000 in
set_option maxHeartbeats 1000000 in
theorem q_X12_shorts {a0 : Nat} {arr : Nat → Nat} {σ : St} {x1 : Int32} {x2 : Int32} {x3 : Int32} {x4 : Int32} (hR : RF a0 arr σ) {P : MS → Prop} (hp : p_X12_shorts x1 x2 x3 x4 (absM a0 arr σ) P) {Q : St → Prop} (hq : ∀ (s : St), RF a0 arr s → P (absM a0 arr s) → Q s) : w_X12_shorts a0 x1 x2 x3 x4 σ Q := by
  unfold p_X12_shorts at hp
  unfold w_X12_shorts
  intro o51 ho51
  rw [hR.ref 19 (by first | decide | assumption)] at ho51
  subst ho51
  refine ⟨arr 19, rfl, ?_⟩
  refine ⟨by rw [hR.len 19 (by first | decide | assumption)]; exact hp.1, ?_⟩
  replace hp := hp.2
  refine q_X12_books hR hp (fun s55 hR hp => ?_)
  refine ⟨fun c => ?_, fun c => ?_⟩
  · replace hp := hp.1 c
    intro o57 ho57
    rw [hR.ref 51 (by first | decide | assumption)] at ho57
    subst ho57
    refine ⟨arr 51, rfl, ?_⟩
    refine ⟨by rw [hR.len 51 (by first | decide | assumption)]; exact hp.1, ?_⟩
    replace hp := hp.2
    intro x60 hx60
    replace hp := hp x60 hx60
    obtain ⟨f129, hp⟩ := hp
    refine ⟨f129, ?_⟩
    exact q_X12_shorts_43 hq f129 _ _ _ _ _ _ hR hp
  · replace hp := hp.2 c
    intro x130 hx130
    replace hp := hp x130 hx130
    obtain ⟨f131, hp⟩ := hp
    refine ⟨f131, ?_⟩
    exact q_X12_shorts_43 hq f131 _ _ _ _ _ _ hR hp
set_option maxRecDepth 100000 in
set_option maxHeartbeats 1000000 in
theorem q_X12_taskAt_14 {a0 : Nat} {arr : Nat → Nat} {P : Int32 → MS → Prop} {Q : Int32 → St → Prop} (hq : ∀ (r : Int32) (s : St), RF a0 arr s → P r (absM a0 arr s) → Q r s) : ∀ (x1 : Int32) (xs1 : Int32) (σ : St), RF a0 arr σ → p_X12_taskAt_14 P  x1 xs1 (absM a0 arr σ) → w_X12_taskAt_14 Q  a0 x1 a0 xs1 σ := by
  intro x1 xs1 σ hR hp
  unfold p_X12_taskAt_14 at hp
  unfold w_X12_taskAt_14
  refine q_X12_holds hR hp (fun x54 s55 hR hp => ?_)
  refine ⟨fun c => ?_, fun c => ?_⟩
  · replace hp := hp.1 c
    exact hq _ _ hR hp
  · replace hp := hp.2 c
    intro o57 ho57
    rw [hR.ref 46 (by first | decide | assumption)] at ho57
    subst ho57
    refine ⟨arr 46, rfl, ?_⟩
    refine ⟨by rw [hR.len 46 (by first | decide | assumption)]; exact hp.1, ?_⟩
    replace hp := hp.2
    intro o60 ho60
    rw [hR.ref 52 (by first | decide | assumption)] at ho60
    subst ho60
    refine ⟨arr 52, rfl, ?_⟩
    refine ⟨by rw [hR.len 52 (by first | decide | assumption)]; exact hp.1, ?_⟩
    replace hp := hp.2
    intro o63 ho63
    rw [hR.ref 51 (by first | decide | assumption)] at ho63
    subst ho63
    refine ⟨arr 51, rfl, ?_⟩
    refine ⟨by rw [hR.len 51 (by first | decide | assumption)]; exact hp.1, ?_⟩
    replace hp := hp.2
    exact hq _ _ hR hp
set_option maxRecDepth 100000 in
set_option maxHeartbeats 1000000 in
theorem q_X12_taskAt {a0 : Nat} {arr : Nat → Nat} {σ : St} {x1 : Int32} (hR : RF a0 arr σ) {P : Int32 → MS → Prop} (hp : p_X12_taskAt x1 (absM a0 arr σ) P) {Q : Int32 → St → Prop} (hq : ∀ (r : Int32) (s : St), RF a0 arr s → P r (absM a0 arr s) → Q r s) : w_X12_taskAt a0 x1 σ Q := by
  unfold p_X12_taskAt at hp
  unfold w_X12_taskAt
  refine q_X12_isTask hR hp (fun x51 s52 hR hp => ?_)
  refine ⟨fun c => ?_, fun c => ?_⟩
  · replace hp := hp.1 c
    exact q_X12_taskAt_14 hq _ _ _ hR hp
  · replace hp := hp.2 c
    exact q_X12_taskAt_14 hq _ _ _ hR hp
set_option maxRecDepth 100000 in
set_option maxHeartbeats 1000000 in
theorem q_X12_wave_92 {a0 : Nat} {arr : Nat → Nat} {P : Int32 → MS → Prop} {Q : Int32 → St → Prop} (hq : ∀ (r : Int32) (s : St), RF a0 arr s → P r (absM a0 arr s) → Q r s) : ∀ (f : Nat) (x1 : Int32) (x2 : Int32) (x6 : Int32) (x7 : Int32) (σ : St), RF a0 arr σ → p_X12_wave_92 P  f x1 x2 x6 x7 (absM a0 arr σ) → w_X12_wave_92 Q  f a0 x1 x2 x6 x7 σ := by
  intro f
  induction f with
  | zero => intro x1 x2 x6 x7 σ hR hp; exact hp.elim
  | succ f ih =>
    intro x1 x2 x6 x7 σ hR hp
    unfold p_X12_wave_92 at hp
    unfold w_X12_wave_92
    refine ⟨fun c => ?_, fun c => ?_⟩
    · replace hp := hp.1 c
      exact hq _ _ hR hp
    · replace hp := hp.2 c
      refine ⟨fun c => ?_, fun c => ?_⟩
      · replace hp := hp.1 c
        exact hq _ _ hR hp
      · replace hp := hp.2 c
        refine q_X12_slotAt hR hp (fun x66 s67 hR hp => ?_)
        refine q_X12_makesPicks hR hp (fun s69 hR hp => ?_)
        exact ih _ _ _ _ _ hR hp
set_option maxRecDepth 100000 in
set_option maxHeartbeats 1000000 in
theorem q_X12_wave_74 {a0 : Nat} {arr : Nat → Nat} {P : Int32 → MS → Prop} {Q : Int32 → St → Prop} (hq : ∀ (r : Int32) (s : St), RF a0 arr s → P r (absM a0 arr s) → Q r s) : ∀ (x1 : Int32) (x2 : Int32) (xs1 : Int32) (σ : St), RF a0 arr σ → p_X12_wave_74 P  x1 x2 xs1 (absM a0 arr σ) → w_X12_wave_74 Q  a0 x1 x2 a0 xs1 σ := by
  intro x1 x2 xs1 σ hR hp
  unfold p_X12_wave_74 at hp
  unfold w_X12_wave_74
  refine q_X12_holds hR hp (fun x59 s60 hR hp => ?_)
  refine ⟨fun c => ?_, fun c => ?_⟩
  · replace hp := hp.1 c
    refine q_X12_picks hR hp (fun x62 s63 hR hp => ?_)
    obtain ⟨f70, hp⟩ := hp
    refine ⟨f70, ?_⟩
    exact q_X12_wave_92 hq f70 _ _ _ _ _ hR hp
  · replace hp := hp.2 c
    exact hq _ _ hR hp
set_option maxRecDepth 100000 in
set_option maxHeartbeats 1000000 in
theorem q_X12_wave_44 {a0 : Nat} {arr : Nat → Nat} {P : Int32 → MS → Prop} {Q : Int32 → St → Prop} (hq : ∀ (r : Int32) (s : St), RF a0 arr s → P r (absM a0 arr s) → Q r s) : ∀ (x1 : Int32) (x2 : Int32) (x3 : Int32) (x4 : Int32) (xs0 : Int32) (σ : St), RF a0 arr σ → p_X12_wave_44 P  x1 x2 x3 x4 xs0 (absM a0 arr σ) → w_X12_wave_44 Q  a0 x1 x2 x3 x4 xs0 σ := by
  intro x1 x2 x3 x4 xs0 σ hR hp
  unfold p_X12_wave_44 at hp
  unfold w_X12_wave_44
  refine ⟨fun c => ?_, fun c => ?_⟩
  · replace hp := hp.1 c
    refine ⟨fun c => ?_, fun c => ?_⟩
    · replace hp := hp.1 c
      refine ⟨fun c => ?_, fun c => ?_⟩
      · replace hp := hp.1 c
        exact q_X12_wave_74 hq _ _ _ _ hR hp
      · replace hp := hp.2 c
        exact q_X12_wave_74 hq _ _ _ _ hR hp
    · replace hp := hp.2 c
      exact q_X12_wave_74 hq _ _ _ _ hR hp
  · replace hp := hp.2 c
    exact q_X12_wave_74 hq _ _ _ _ hR hp
set_option maxRecDepth 100000 in
set_option maxHeartbeats 1000000 in
theorem q_X12_wave_43 {a0 : Nat} {arr : Nat → Nat} {P : Int32 → MS → Prop} {Q : Int32 → St → Prop} (hq : ∀ (r : Int32) (s : St), RF a0 arr s → P r (absM a0 arr s) → Q r s) : ∀ (x1 : Int32) (x2 : Int32) (x3 : Int32) (x4 : Int32) (σ : St), RF a0 arr σ → p_X12_wave_43 P  x1 x2 x3 x4 (absM a0 arr σ) → w_X12_wave_43 Q  a0 x1 x2 x3 x4 σ := by
  intro x1 x2 x3 x4 σ hR hp
  unfold p_X12_wave_43 at hp
  unfold w_X12_wave_43
  exact q_X12_wave_44 hq _ _ _ _ _ _ hR hp
set_option maxRecDepth 100000 in
set_option maxHeartbeats 1000000 in
theorem q_X12_wave {a0 : Nat} {arr : Nat → Nat} {σ : St} {x1 : Int32} {x2 : Int32} (hR : RF a0 arr σ) {P : Int32 → MS → Prop} (hp : p_X12_wave x1 x2 (absM a0 arr σ) P) {Q : Int32 → St → Prop} (hq : ∀ (r : Int32) (s : St), RF a0 arr s → P r (absM a0 arr s) → Q r s) : w_X12_wave a0 x1 x2 σ Q := by
  unfold p_X12_wave at hp
  unfold w_X12_wave
  refine q_X12_isRobot hR hp (fun x51 s52 hR hp => ?_)
  refine q_X12_isIn hR hp (fun x53 s54 hR hp => ?_)
  refine ⟨fun c => ?_, fun c => ?_⟩
  · replace hp := hp.1 c
    exact q_X12_wave_43 hq _ _ _ _ _ hR hp
  · replace hp := hp.2 c
    refine ⟨fun c => ?_, fun c => ?_⟩
    · replace hp := hp.1 c
      exact q_X12_wave_43 hq _ _ _ _ _ hR hp
    · replace hp := hp.2 c
      refine q_X12_picks hR hp (fun x72 s73 hR hp => ?_)
      refine ⟨fun c => ?_, fun c => ?_⟩
      · replace hp := hp.1 c
        exact q_X12_wave_43 hq _ _ _ _ _ hR hp
      · replace hp := hp.2 c
        exact q_X12_wave_44 hq _ _ _ _ _ _ hR hp
set_option maxRecDepth 100000 in
set_option maxHeartbeats 1000000 in
theorem q_X12_where_13 {a0 : Nat} {arr : Nat → Nat} {P : Int32 → MS → Prop} {Q : Int32 → St → Prop} (hq : ∀ (r : Int32) (s : St), RF a0 arr s → P r (absM a0 arr s) → Q r s) : ∀ (x1 : Int32) (xs1 : Int32) (σ : St), RF a0 arr σ → p_X12_where_13 P  x1 xs1 (absM a0 arr σ) → w_X12_where_13 Q  a0 x1 a0 xs1 σ := by
  intro x1 xs1 σ hR hp
  unfold p_X12_where_13 at hp
  unfold w_X12_where_13
  refine q_X12_holds hR hp (fun x54 s55 hR hp => ?_)
  refine ⟨fun c => ?_, fun c => ?_⟩
  · replace hp := hp.1 c
    intro o57 ho57
    rw [hR.ref 55 (by first | decide | assumption)] at ho57
    subst ho57
    refine ⟨arr 55, rfl, ?_⟩
    refine ⟨by rw [hR.len 55 (by first | decide | assumption)]; exact hp.1, ?_⟩
    replace hp := hp.2
    refine ⟨fun c => ?_, fun c => ?_⟩
    · replace hp := hp.1 c
      intro o61 ho61
      rw [hR.ref 55 (by first | decide | assumption)] at ho61
      subst ho61
      refine ⟨arr 55, rfl, ?_⟩
      refine ⟨by rw [hR.len 55 (by first | decide | assumption)]; exact hp.1, ?_⟩
      replace hp := hp.2
      intro o64 ho64
      rw [hR.ref 56 (by first | decide | assumption)] at ho64
      subst ho64
      refine ⟨arr 56, rfl, ?_⟩
      refine ⟨by rw [hR.len 56 (by first | decide | assumption)]; exact hp.1, ?_⟩
      replace hp := hp.2
      exact hq _ _ hR hp
    · replace hp := hp.2 c
      exact hq _ _ hR hp
  · replace hp := hp.2 c
    exact hq _ _ hR hp
set_option maxRecDepth 100000 in
set_option maxHeartbeats 1000000 in
theorem q_X12_where {a0 : Nat} {arr : Nat → Nat} {σ : St} {x1 : Int32} (hR : RF a0 arr σ) {P : Int32 → MS → Prop} (hp : p_X12_where x1 (absM a0 arr σ) P) {Q : Int32 → St → Prop} (hq : ∀ (r : Int32) (s : St), RF a0 arr s → P r (absM a0 arr s) → Q r s) : w_X12_where a0 x1 σ Q := by
  unfold p_X12_where at hp
  unfold w_X12_where
  refine q_X12_isRobot hR hp (fun x51 s52 hR hp => ?_)
  refine ⟨fun c => ?_, fun c => ?_⟩
  · replace hp := hp.1 c
    exact q_X12_where_13 hq _ _ _ hR hp
  · replace hp := hp.2 c
    exact q_X12_where_13 hq _ _ _ hR hp
set_option maxRecDepth 100000 in
set_option maxHeartbeats 1000000 in
theorem q_X12_boxAt_39 {a0 : Nat} {arr : Nat → Nat} {P : Int32 → MS → Prop} {Q : Int32 → St → Prop} (hq : ∀ (r : Int32) (s : St), RF a0 arr s → P r (absM a0 arr s) → Q r s) : ∀ (x1 : Int32) (x2 : Int32) (xs1 : Int32) (σ : St), RF a0 arr σ → p_X12_boxAt_39 P  x1 x2 xs1 (absM a0 arr σ) → w_X12_boxAt_39 Q  a0 x1 x2 a0 xs1 σ := by
  intro x1 x2 xs1 σ hR hp
  unfold p_X12_boxAt_39 at hp
  unfold w_X12_boxAt_39
  refine q_X12_holds hR hp (fun x55 s56 hR hp => ?_)
  refine ⟨fun c => ?_, fun c => ?_⟩
  · replace hp := hp.1 c
    intro o58 ho58
    rw [hR.ref 32 (by first | decide | assumption)] at ho58
    subst ho58
    refine ⟨arr 32, rfl, ?_⟩
    refine ⟨by rw [hR.len 32 (by first | decide | assumption)]; exact hp.1, ?_⟩
    replace hp := hp.2
    refine ⟨fun c => ?_, fun c => ?_⟩
    · replace hp := hp.1 c
      intro o62 ho62
      rw [hR.ref 62 (by first | decide | assumption)] at ho62
      subst ho62
      refine ⟨arr 62, rfl, ?_⟩
      refine ⟨by rw [hR.len 62 (by first | decide | assumption)]; exact hp.1, ?_⟩
      replace hp := hp.2
      intro o65 ho65
      rw [hR.ref 63 (by first | decide | assumption)] at ho65
      subst ho65
      refine ⟨arr 63, rfl, ?_⟩
      refine ⟨by rw [hR.len 63 (by first | decide | assumption)]; exact hp.1, ?_⟩
      replace hp := hp.2
      exact hq _ _ hR hp
    · replace hp := hp.2 c
      intro o68 ho68
      rw [hR.ref 34 (by first | decide | assumption)] at ho68
      subst ho68
      refine ⟨arr 34, rfl, ?_⟩
      refine ⟨by rw [hR.len 34 (by first | decide | assumption)]; exact hp.1, ?_⟩
      replace hp := hp.2
      exact hq _ _ hR hp
  · replace hp := hp.2 c
    exact hq _ _ hR hp
set_option maxRecDepth 100000 in
set_option maxHeartbeats 1000000 in
theorem q_X12_boxAt_28 {a0 : Nat} {arr : Nat → Nat} {P : Int32 → MS → Prop} {Q : Int32 → St → Prop} (hq : ∀ (r : Int32) (s : St), RF a0 arr s → P r (absM a0 arr s) → Q r s) : ∀ (x1 : Int32) (x2 : Int32) (xs0 : Int32) (σ : St), RF a0 arr σ → p_X12_boxAt_28 P  x1 x2 xs0 (absM a0 arr σ) → w_X12_boxAt_28 Q  a0 x1 x2 xs0 σ := by
  intro x1 x2 xs0 σ hR hp
  unfold p_X12_boxAt_28 at hp
  unfold w_X12_boxAt_28
  refine ⟨fun c => ?_, fun c => ?_⟩
  · replace hp := hp.1 c
    exact q_X12_boxAt_39 hq _ _ _ _ hR hp
  · replace hp := hp.2 c
    exact q_X12_boxAt_39 hq _ _ _ _ hR hp
set_option maxRecDepth 100000 in
set_option maxHeartbeats 1000000 in
theorem q_X12_boxAt_27 {a0 : Nat} {arr : Nat → Nat} {P : Int32 → MS → Prop} {Q : Int32 → St → Prop} (hq : ∀ (r : Int32) (s : St), RF a0 arr s → P r (absM a0 arr s) → Q r s) : ∀ (x1 : Int32) (x2 : Int32) (σ : St), RF a0 arr σ → p_X12_boxAt_27 P  x1 x2 (absM a0 arr σ) → w_X12_boxAt_27 Q  a0 x1 x2 σ := by
  intro x1 x2 σ hR hp
  unfold p_X12_boxAt_27 at hp
  unfold w_X12_boxAt_27
  exact q_X12_boxAt_28 hq _ _ _ _ hR hp
set_option maxRecDepth 100000 in
set_option maxHeartbeats 1000000 in
theorem q_X12_boxAt {a0 : Nat} {arr : Nat → Nat} {σ : St} {x1 : Int32} {x2 : Int32} (hR : RF a0 arr σ) {P : Int32 → MS → Prop} (hp : p_X12_boxAt x1 x2 (absM a0 arr σ) P) {Q : Int32 → St → Prop} (hq : ∀ (r : Int32) (s : St), RF a0 arr s → P r (absM a0 arr s) → Q r s) : w_X12_boxAt a0 x1 x2 σ Q := by
  unfold p_X12_boxAt at hp
  unfold w_X12_boxAt
  refine q_X12_isOrder hR hp (fun x51 s52 hR hp => ?_)
  refine ⟨fun c => ?_, fun c => ?_⟩
  · replace hp := hp.1 c
    exact q_X12_boxAt_27 hq _ _ _ hR hp
  · replace hp := hp.2 c
    refine q_X12_boxesOf hR hp (fun x71 s72 hR hp => ?_)
    refine q_X12_isIn hR hp (fun x73 s74 hR hp => ?_)
    refine ⟨fun c => ?_, fun c => ?_⟩
    · replace hp := hp.1 c
      exact q_X12_boxAt_27 hq _ _ _ hR hp
    · replace hp := hp.2 c
      exact q_X12_boxAt_28 hq _ _ _ _ hR hp
set_option maxRecDepth 100000 in
set_option maxHeartbeats 1000000 in
theorem q_X12_boxes_14 {a0 : Nat} {arr : Nat → Nat} {P : Int32 → MS → Prop} {Q : Int32 → St → Prop} (hq : ∀ (r : Int32) (s : St), RF a0 arr s → P r (absM a0 arr s) → Q r s) : ∀ (x1 : Int32) (xs1 : Int32) (σ : St), RF a0 arr σ → p_X12_boxes_14 P  x1 xs1 (absM a0 arr σ) → w_X12_boxes_14 Q  a0 x1 a0 xs1 σ := by
  intro x1 xs1 σ hR hp
  unfold p_X12_boxes_14 at hp
  unfold w_X12_boxes_14
  refine q_X12_holds hR hp (fun x54 s55 hR hp => ?_)
  refine ⟨fun c => ?_, fun c => ?_⟩
  · replace hp := hp.1 c
    exact hq _ _ hR hp
  · replace hp := hp.2 c
    refine q_X12_boxesOf hR hp (fun x57 s58 hR hp => ?_)
    exact hq _ _ hR hp
set_option maxRecDepth 100000 in
set_option maxHeartbeats 1000000 in
theorem q_X12_boxes {a0 : Nat} {arr : Nat → Nat} {σ : St} {x1 : Int32} (hR : RF a0 arr σ) {P : Int32 → MS → Prop} (hp : p_X12_boxes x1 (absM a0 arr σ) P) {Q : Int32 → St → Prop} (hq : ∀ (r : Int32) (s : St), RF a0 arr s → P r (absM a0 arr s) → Q r s) : w_X12_boxes a0 x1 σ Q := by
  unfold p_X12_boxes at hp
  unfold w_X12_boxes
  refine q_X12_isOrder hR hp (fun x51 s52 hR hp => ?_)
  refine ⟨fun c => ?_, fun c => ?_⟩
  · replace hp := hp.1 c
    exact q_X12_boxes_14 hq _ _ _ hR hp
  · replace hp := hp.2 c
    exact q_X12_boxes_14 hq _ _ _ hR hp
set_option maxRecDepth 100000 in
set_option maxHeartbeats 1000000 in
theorem q_X12_count_144 {a0 : Nat} {arr : Nat → Nat} {P : Int32 → MS → Prop} {Q : Int32 → St → Prop} (hq : ∀ (r : Int32) (s : St), RF a0 arr s → P r (absM a0 arr s) → Q r s) : ∀ (x1 : Int32) (x2 : Int32) (x3 : Int32) (x4 : Int32) (x5 : Int32) (σ : St), RF a0 arr σ → p_X12_count_144 P  x1 x2 x3 x4 x5 (absM a0 arr σ) → w_X12_count_144 Q  a0 x1 x2 x3 x4 x5 σ := by
  intro x1 x2 x3 x4 x5 σ hR hp
  unfold p_X12_count_144 at hp
  unfold w_X12_count_144
  refine ⟨fun c => ?_, fun c => ?_⟩
  · replace hp := hp.1 c
    exact hq _ _ hR hp
  · replace hp := hp.2 c
    intro o77 ho77
    rw [hR.ref 19 (by first | decide | assumption)] at ho77
    subst ho77
    refine ⟨arr 19, rfl, ?_⟩
    refine ⟨by rw [hR.len 19 (by first | decide | assumption)]; exact hp.1, ?_⟩
    replace hp := hp.2
    refine q_X12_books hR hp (fun s81 hR hp => ?_)
    exact hq _ _ hR hp
set_option maxRecDepth 100000 in
set_option maxHeartbeats 1000000 in
theorem q_X12_count_111 {a0 : Nat} {arr : Nat → Nat} {P : Int32 → MS → Prop} {Q : Int32 → St → Prop} (hq : ∀ (r : Int32) (s : St), RF a0 arr s → P r (absM a0 arr s) → Q r s) : ∀ (x1 : Int32) (x2 : Int32) (x3 : Int32) (x4 : Int32) (x5 : Int32) (os0 : Nat) (xs1 : Int32) (xs2 : Int32) (σ : St), RF a0 arr σ → p_X12_count_111 P  x1 x2 x3 x4 x5 os0 xs1 xs2 (absM a0 arr σ) → w_X12_count_111 Q  a0 x1 x2 x3 x4 x5 (some (arr os0)) xs1 xs2 σ := by
  intro x1 x2 x3 x4 x5 os0 xs1 xs2 σ hR hp
  unfold p_X12_count_111 at hp
  unfold w_X12_count_111
  obtain ⟨hAos0, hp⟩ := hp
  refine ⟨arr os0, rfl, ?_⟩
  refine ⟨by rw [hR.len os0 (by first | decide | assumption)]; exact hp.1, ?_⟩
  replace hp := hp.2
  intro s74 hs74
  have h2 := abs_setA hR os0 (by first | decide | assumption) hs74
  replace hR := hR.setA hs74
  replace hp := hp _ h2
  clear h2 hs74
  refine ⟨fun c => ?_, fun c => ?_⟩
  · replace hp := hp.1 c
    exact q_X12_count_144 hq _ _ _ _ _ _ hR hp
  · replace hp := hp.2 c
    intro o82 ho82
    rw [hR.ref 19 (by first | decide | assumption)] at ho82
    subst ho82
    refine ⟨arr 19, rfl, ?_⟩
    refine ⟨by rw [hR.len 19 (by first | decide | assumption)]; exact hp.1, ?_⟩
    replace hp := hp.2
    refine ⟨fun c => ?_, fun c => ?_⟩
    · replace hp := hp.1 c
      exact q_X12_count_144 hq _ _ _ _ _ _ hR hp
    · replace hp := hp.2 c
      refine q_X12_shorts hR hp (fun s87 hR hp => ?_)
      refine q_X12_tidies hR hp (fun s89 hR hp => ?_)
      exact hq _ _ hR hp
set_option maxRecDepth 100000 in
set_option maxHeartbeats 1000000 in
theorem q_X12_count_82 {a0 : Nat} {arr : Nat → Nat} {P : Int32 → MS → Prop} {Q : Int32 → St → Prop} (hq : ∀ (r : Int32) (s : St), RF a0 arr s → P r (absM a0 arr s) → Q r s) : ∀ (x1 : Int32) (x2 : Int32) (x3 : Int32) (x4 : Int32) (xs0 : Int32) (σ : St), RF a0 arr σ → p_X12_count_82 P  x1 x2 x3 x4 xs0 (absM a0 arr σ) → w_X12_count_82 Q  a0 x1 x2 x3 x4 xs0 σ := by
  intro x1 x2 x3 x4 xs0 σ hR hp
  unfold p_X12_count_82 at hp
  unfold w_X12_count_82
  intro o67 ho67
  rw [hR.ref 21 (by first | decide | assumption)] at ho67
  subst ho67
  intro o68 ho68
  rw [hR.ref 19 (by first | decide | assumption)] at ho68
  subst ho68
  refine ⟨arr 19, rfl, ?_⟩
  refine ⟨by rw [hR.len 19 (by first | decide | assumption)]; exact hp.1, ?_⟩
  replace hp := hp.2
  refine ⟨fun c => ?_, fun c => ?_⟩
  · replace hp := hp.1 c
    exact q_X12_count_111 hq _ _ _ _ _ _ _ _ _ hR hp
  · replace hp := hp.2 c
    refine ⟨fun c => ?_, fun c => ?_⟩
    · replace hp := hp.1 c
      exact q_X12_count_111 hq _ _ _ _ _ _ _ _ _ hR hp
    · replace hp := hp.2 c
      exact q_X12_count_111 hq _ _ _ _ _ _ _ _ _ hR hp
set_option maxRecDepth 100000 in
set_option maxHeartbeats 1000000 in
theorem q_X12_count_81 {a0 : Nat} {arr : Nat → Nat} {P : Int32 → MS → Prop} {Q : Int32 → St → Prop} (hq : ∀ (r : Int32) (s : St), RF a0 arr s → P r (absM a0 arr s) → Q r s) : ∀ (x1 : Int32) (x2 : Int32) (x3 : Int32) (x4 : Int32) (σ : St), RF a0 arr σ → p_X12_count_81 P  x1 x2 x3 x4 (absM a0 arr σ) → w_X12_count_81 Q  a0 x1 x2 x3 x4 σ := by
  intro x1 x2 x3 x4 σ hR hp
  unfold p_X12_count_81 at hp
  unfold w_X12_count_81
  exact q_X12_count_82 hq _ _ _ _ _ _ hR hp
set_option maxRecDepth 100000 in
set_option maxHeartbeats 1000000 in
theorem q_X12_count_21 {a0 : Nat} {arr : Nat → Nat} {P : Int32 → MS → Prop} {Q : Int32 → St → Prop} (hq : ∀ (r : Int32) (s : St), RF a0 arr s → P r (absM a0 arr s) → Q r s) : ∀ (x1 : Int32) (x2 : Int32) (xs1 : Int32) (σ : St), RF a0 arr σ → p_X12_count_21 P  x1 x2 xs1 (absM a0 arr σ) → w_X12_count_21 Q  a0 x1 x2 a0 xs1 σ := by
  intro x1 x2 xs1 σ hR hp
  unfold p_X12_count_21 at hp
  unfold w_X12_count_21
  refine q_X12_holds hR hp (fun x54 s55 hR hp => ?_)
  refine ⟨fun c => ?_, fun c => ?_⟩
  · replace hp := hp.1 c
    intro x57 hx57
    replace hp := hp x57 hx57
    intro o58 ho58
    rw [hR.ref 20 (by first | decide | assumption)] at ho58
    subst ho58
    refine ⟨arr 20, rfl, ?_⟩
    refine ⟨by rw [hR.len 20 (by first | decide | assumption)]; exact hp.1, ?_⟩
    replace hp := hp.2
    intro x61 hx61
    replace hp := hp x61 hx61
    intro s62 hs62
    have h2 := abs_setI (arr := arr) 2 (by first | decide | assumption) hs62
    replace hR := hR.setI hs62
    replace hp := hp _ h2
    clear h2 hs62
    intro o63 ho63
    rw [hR.ref 19 (by first | decide | assumption)] at ho63
    subst ho63
    refine ⟨arr 19, rfl, ?_⟩
    refine ⟨by rw [hR.len 19 (by first | decide | assumption)]; exact hp.1, ?_⟩
    replace hp := hp.2
    refine ⟨fun c => ?_, fun c => ?_⟩
    · replace hp := hp.1 c
      exact q_X12_count_81 hq _ _ _ _ _ hR hp
    · replace hp := hp.2 c
      intro o91 ho91
      rw [hR.ref 21 (by first | decide | assumption)] at ho91
      subst ho91
      refine ⟨arr 21, rfl, ?_⟩
      refine ⟨by rw [hR.len 21 (by first | decide | assumption)]; exact hp.1, ?_⟩
      replace hp := hp.2
      refine ⟨fun c => ?_, fun c => ?_⟩
      · replace hp := hp.1 c
        exact q_X12_count_81 hq _ _ _ _ _ hR hp
      · replace hp := hp.2 c
        exact q_X12_count_82 hq _ _ _ _ _ _ hR hp
  · replace hp := hp.2 c
    exact hq _ _ hR hp
set_option maxRecDepth 100000 in
set_option maxHeartbeats 1000000 in
theorem q_X12_count_20 {a0 : Nat} {arr : Nat → Nat} {P : Int32 → MS → Prop} {Q : Int32 → St → Prop} (hq : ∀ (r : Int32) (s : St), RF a0 arr s → P r (absM a0 arr s) → Q r s) : ∀ (x1 : Int32) (x2 : Int32) (σ : St), RF a0 arr σ → p_X12_count_20 P  x1 x2 (absM a0 arr σ) → w_X12_count_20 Q  a0 x1 x2 a0 σ := by
  intro x1 x2 σ hR hp
  unfold p_X12_count_20 at hp
  unfold w_X12_count_20
  exact q_X12_count_21 hq _ _ _ _ hR hp
set_option maxRecDepth 100000 in
set_option maxHeartbeats 1000000 in
theorem q_X12_count {a0 : Nat} {arr : Nat → Nat} {σ : St} {x1 : Int32} {x2 : Int32} (hR : RF a0 arr σ) {P : Int32 → MS → Prop} (hp : p_X12_count x1 x2 (absM a0 arr σ) P) {Q : Int32 → St → Prop} (hq : ∀ (r : Int32) (s : St), RF a0 arr s → P r (absM a0 arr s) → Q r s) : w_X12_count a0 x1 x2 σ Q := by
  unfold p_X12_count at hp
  unfold w_X12_count
  refine q_X12_isSlot hR hp (fun x51 s52 hR hp => ?_)
  refine ⟨fun c => ?_, fun c => ?_⟩
  · replace hp := hp.1 c
    exact q_X12_count_20 hq _ _ _ hR hp
  · replace hp := hp.2 c
    refine q_X12_isLot hR hp (fun x95 s96 hR hp => ?_)
    refine ⟨fun c => ?_, fun c => ?_⟩
    · replace hp := hp.1 c
      exact q_X12_count_20 hq _ _ _ hR hp
    · replace hp := hp.2 c
      exact q_X12_count_21 hq _ _ _ _ hR hp
set_option maxRecDepth 100000 in
set_option maxHeartbeats 1000000 in
theorem q_X12_does_195 {a0 : Nat} {arr : Nat → Nat} {P : MS → Prop} {Q : St → Prop} (hq : ∀ (s : St), RF a0 arr s → P (absM a0 arr s) → Q s) : ∀ (x1 : Int32) (x2 : Int32) (σ : St), RF a0 arr σ → p_X12_does_195 P  x1 x2 (absM a0 arr σ) → w_X12_does_195 Q  a0 x1 x2 σ := by
  intro x1 x2 σ hR hp
  unfold p_X12_does_195 at hp
  unfold w_X12_does_195
  intro o74 ho74
  rw [hR.ref 46 (by first | decide | assumption)] at ho74
  subst ho74
  refine ⟨arr 46, rfl, ?_⟩
  refine ⟨by rw [hR.len 46 (by first | decide | assumption)]; exact hp.1, ?_⟩
  replace hp := hp.2
  refine ⟨fun c => ?_, fun c => ?_⟩
  · replace hp := hp.1 c
    intro o78 ho78
    rw [hR.ref 51 (by first | decide | assumption)] at ho78
    subst ho78
    refine ⟨arr 51, rfl, ?_⟩
    refine ⟨by rw [hR.len 51 (by first | decide | assumption)]; exact hp.1, ?_⟩
    replace hp := hp.2
    refine ⟨fun c => ?_, fun c => ?_⟩
    · replace hp := hp.1 c
      intro o82 ho82
      rw [hR.ref 54 (by first | decide | assumption)] at ho82
      subst ho82
      refine ⟨arr 54, rfl, ?_⟩
      refine ⟨by rw [hR.len 54 (by first | decide | assumption)]; exact hp.1, ?_⟩
      replace hp := hp.2
      intro s85 hs85
      have h2 := abs_setA hR 54 (by first | decide | assumption) hs85
      replace hR := hR.setA hs85
      replace hp := hp _ h2
      clear h2 hs85
      exact hq _ hR hp
    · replace hp := hp.2 c
      refine q_X12_ends hR hp (fun s87 hR hp => ?_)
      exact hq _ hR hp
  · replace hp := hp.2 c
    intro o88 ho88
    rw [hR.ref 20 (by first | decide | assumption)] at ho88
    subst ho88
    intro o89 ho89
    rw [hR.ref 48 (by first | decide | assumption)] at ho89
    subst ho89
    refine ⟨arr 48, rfl, ?_⟩
    refine ⟨by rw [hR.len 48 (by first | decide | assumption)]; exact hp.1, ?_⟩
    replace hp := hp.2
    intro x92 hx92
    replace hp := hp x92 hx92
    refine ⟨arr 20, rfl, ?_⟩
    refine ⟨by rw [hR.len 20 (by first | decide | assumption)]; exact hp.1, ?_⟩
    replace hp := hp.2
    intro o95 ho95
    rw [hR.ref 51 (by first | decide | assumption)] at ho95
    subst ho95
    refine ⟨arr 51, rfl, ?_⟩
    refine ⟨by rw [hR.len 51 (by first | decide | assumption)]; exact hp.1, ?_⟩
    replace hp := hp.2
    refine ⟨by rw [hR.len 20 (by first | decide | assumption)]; exact hp.1, ?_⟩
    replace hp := hp.2
    intro s99 hs99
    have h2 := abs_setA hR 20 (by first | decide | assumption) hs99
    replace hR := hR.setA hs99
    replace hp := hp _ h2
    clear h2 hs99
    intro o100 ho100
    rw [hR.ref 38 (by first | decide | assumption)] at ho100
    subst ho100
    intro o101 ho101
    rw [hR.ref 50 (by first | decide | assumption)] at ho101
    subst ho101
    refine ⟨arr 50, rfl, ?_⟩
    refine ⟨by rw [hR.len 50 (by first | decide | assumption)]; exact hp.1, ?_⟩
    replace hp := hp.2
    intro x104 hx104
    replace hp := hp x104 hx104
    refine ⟨arr 38, rfl, ?_⟩
    refine ⟨by rw [hR.len 38 (by first | decide | assumption)]; exact hp.1, ?_⟩
    replace hp := hp.2
    intro o107 ho107
    rw [hR.ref 51 (by first | decide | assumption)] at ho107
    subst ho107
    refine ⟨arr 51, rfl, ?_⟩
    refine ⟨by rw [hR.len 51 (by first | decide | assumption)]; exact hp.1, ?_⟩
    replace hp := hp.2
    refine ⟨by rw [hR.len 38 (by first | decide | assumption)]; exact hp.1, ?_⟩
    replace hp := hp.2
    intro s111 hs111
    have h2 := abs_setA hR 38 (by first | decide | assumption) hs111
    replace hR := hR.setA hs111
    replace hp := hp _ h2
    clear h2 hs111
    intro o112 ho112
    rw [hR.ref 51 (by first | decide | assumption)] at ho112
    subst ho112
    refine ⟨arr 51, rfl, ?_⟩
    refine ⟨by rw [hR.len 51 (by first | decide | assumption)]; exact hp.1, ?_⟩
    replace hp := hp.2
    refine q_X12_moves hR hp (fun s116 hR hp => ?_)
    exact hq _ hR hp
set_option maxRecDepth 100000 in
set_option maxHeartbeats 1000000 in
theorem q_X12_does_144 {a0 : Nat} {arr : Nat → Nat} {P : MS → Prop} {Q : St → Prop} (hq : ∀ (s : St), RF a0 arr s → P (absM a0 arr s) → Q s) : ∀ (x1 : Int32) (x2 : Int32) (σ : St), RF a0 arr σ → p_X12_does_144 P  x1 x2 (absM a0 arr σ) → w_X12_does_144 Q  a0 x1 x2 σ := by
  intro x1 x2 σ hR hp
  unfold p_X12_does_144 at hp
  unfold w_X12_does_144
  intro o63 ho63
  rw [hR.ref 20 (by first | decide | assumption)] at ho63
  subst ho63
  intro o64 ho64
  rw [hR.ref 48 (by first | decide | assumption)] at ho64
  subst ho64
  refine ⟨arr 48, rfl, ?_⟩
  refine ⟨by rw [hR.len 48 (by first | decide | assumption)]; exact hp.1, ?_⟩
  replace hp := hp.2
  refine ⟨arr 20, rfl, ?_⟩
  refine ⟨by rw [hR.len 20 (by first | decide | assumption)]; exact hp.1, ?_⟩
  replace hp := hp.2
  intro x69 hx69
  replace hp := hp x69 hx69
  intro o70 ho70
  rw [hR.ref 51 (by first | decide | assumption)] at ho70
  subst ho70
  refine ⟨arr 51, rfl, ?_⟩
  refine ⟨by rw [hR.len 51 (by first | decide | assumption)]; exact hp.1, ?_⟩
  replace hp := hp.2
  refine ⟨fun c => ?_, fun c => ?_⟩
  · replace hp := hp.1 c
    exact q_X12_does_195 hq _ _ _ hR hp
  · replace hp := hp.2 c
    intro o117 ho117
    rw [hR.ref 51 (by first | decide | assumption)] at ho117
    subst ho117
    refine ⟨arr 51, rfl, ?_⟩
    refine ⟨by rw [hR.len 51 (by first | decide | assumption)]; exact hp.1, ?_⟩
    replace hp := hp.2
    intro s120 hs120
    have h2 := abs_setA hR 51 (by first | decide | assumption) hs120
    replace hR := hR.setA hs120
    replace hp := hp _ h2
    clear h2 hs120
    intro o121 ho121
    rw [hR.ref 48 (by first | decide | assumption)] at ho121
    subst ho121
    refine ⟨arr 48, rfl, ?_⟩
    refine ⟨by rw [hR.len 48 (by first | decide | assumption)]; exact hp.1, ?_⟩
    replace hp := hp.2
    refine q_X12_shorts hR hp (fun s125 hR hp => ?_)
    refine q_X12_tidies hR hp (fun s127 hR hp => ?_)
    exact q_X12_does_195 hq _ _ _ hR hp
set_option maxRecDepth 100000 in
set_option maxHeartbeats 1000000 in
theorem q_X12_does {a0 : Nat} {arr : Nat → Nat} {σ : St} {x1 : Int32} (hR : RF a0 arr σ) {P : MS → Prop} (hp : p_X12_does x1 (absM a0 arr σ) P) {Q : St → Prop} (hq : ∀ (s : St), RF a0 arr s → P (absM a0 arr s) → Q s) : w_X12_does a0 x1 σ Q := by
  unfold p_X12_does at hp
  unfold w_X12_does
  intro o51 ho51
  rw [hR.ref 47 (by first | decide | assumption)] at ho51
  subst ho51
  refine ⟨arr 47, rfl, ?_⟩
  refine ⟨by rw [hR.len 47 (by first | decide | assumption)]; exact hp.1, ?_⟩
  replace hp := hp.2
  intro x54 hx54
  replace hp := hp x54 hx54
  intro o55 ho55
  rw [hR.ref 46 (by first | decide | assumption)] at ho55
  subst ho55
  refine ⟨arr 46, rfl, ?_⟩
  refine ⟨by rw [hR.len 46 (by first | decide | assumption)]; exact hp.1, ?_⟩
  replace hp := hp.2
  refine ⟨fun c => ?_, fun c => ?_⟩
  · replace hp := hp.1 c
    intro o59 ho59
    rw [hR.ref 46 (by first | decide | assumption)] at ho59
    subst ho59
    refine ⟨arr 46, rfl, ?_⟩
    refine ⟨by rw [hR.len 46 (by first | decide | assumption)]; exact hp.1, ?_⟩
    replace hp := hp.2
    refine ⟨fun c => ?_, fun c => ?_⟩
    · replace hp := hp.1 c
      exact q_X12_does_144 hq _ _ _ hR hp
    · replace hp := hp.2 c
      intro o128 ho128
      rw [hR.ref 54 (by first | decide | assumption)] at ho128
      subst ho128
      refine ⟨arr 54, rfl, ?_⟩
      refine ⟨by rw [hR.len 54 (by first | decide | assumption)]; exact hp.1, ?_⟩
      replace hp := hp.2
      refine ⟨fun c => ?_, fun c => ?_⟩
      · replace hp := hp.1 c
        exact q_X12_does_144 hq _ _ _ hR hp
      · replace hp := hp.2 c
        intro o132 ho132
        rw [hR.ref 51 (by first | decide | assumption)] at ho132
        subst ho132
        refine ⟨arr 51, rfl, ?_⟩
        refine ⟨by rw [hR.len 51 (by first | decide | assumption)]; exact hp.1, ?_⟩
        replace hp := hp.2
        intro o135 ho135
        rw [hR.ref 20 (by first | decide | assumption)] at ho135
        subst ho135
        intro o136 ho136
        rw [hR.ref 48 (by first | decide | assumption)] at ho136
        subst ho136
        refine ⟨arr 48, rfl, ?_⟩
        refine ⟨by rw [hR.len 48 (by first | decide | assumption)]; exact hp.1, ?_⟩
        replace hp := hp.2
        refine ⟨arr 20, rfl, ?_⟩
        refine ⟨by rw [hR.len 20 (by first | decide | assumption)]; exact hp.1, ?_⟩
        replace hp := hp.2
        refine q_X12_less hR hp (fun x141 s142 hR hp => ?_)
        intro o143 ho143
        rw [hR.ref 20 (by first | decide | assumption)] at ho143
        subst ho143
        intro o144 ho144
        rw [hR.ref 48 (by first | decide | assumption)] at ho144
        subst ho144
        refine ⟨arr 48, rfl, ?_⟩
        refine ⟨by rw [hR.len 48 (by first | decide | assumption)]; exact hp.1, ?_⟩
        replace hp := hp.2
        intro x147 hx147
        replace hp := hp x147 hx147
        refine ⟨arr 20, rfl, ?_⟩
        refine ⟨by rw [hR.len 20 (by first | decide | assumption)]; exact hp.1, ?_⟩
        replace hp := hp.2
        refine ⟨by rw [hR.len 20 (by first | decide | assumption)]; exact hp.1, ?_⟩
        replace hp := hp.2
        intro s151 hs151
        have h2 := abs_setA hR 20 (by first | decide | assumption) hs151
        replace hR := hR.setA hs151
        replace hp := hp _ h2
        clear h2 hs151
        intro o152 ho152
        rw [hR.ref 20 (by first | decide | assumption)] at ho152
        subst ho152
        intro o153 ho153
        rw [hR.ref 49 (by first | decide | assumption)] at ho153
        subst ho153
        refine ⟨arr 49, rfl, ?_⟩
        refine ⟨by rw [hR.len 49 (by first | decide | assumption)]; exact hp.1, ?_⟩
        replace hp := hp.2
        intro x156 hx156
        replace hp := hp x156 hx156
        refine ⟨arr 20, rfl, ?_⟩
        refine ⟨by rw [hR.len 20 (by first | decide | assumption)]; exact hp.1, ?_⟩
        replace hp := hp.2
        refine ⟨by rw [hR.len 20 (by first | decide | assumption)]; exact hp.1, ?_⟩
        replace hp := hp.2
        intro s160 hs160
        have h2 := abs_setA hR 20 (by first | decide | assumption) hs160
        replace hR := hR.setA hs160
        replace hp := hp _ h2
        clear h2 hs160
        refine q_X12_moves hR hp (fun s162 hR hp => ?_)
        exact hq _ hR hp
  · replace hp := hp.2 c
    intro o163 ho163
    rw [hR.ref 20 (by first | decide | assumption)] at ho163
    subst ho163
    intro o164 ho164
    rw [hR.ref 49 (by first | decide | assumption)] at ho164
    subst ho164
    refine ⟨arr 49, rfl, ?_⟩
    refine ⟨by rw [hR.len 49 (by first | decide | assumption)]; exact hp.1, ?_⟩
    replace hp := hp.2
    intro x167 hx167
    replace hp := hp x167 hx167
    refine ⟨arr 20, rfl, ?_⟩
    refine ⟨by rw [hR.len 20 (by first | decide | assumption)]; exact hp.1, ?_⟩
    replace hp := hp.2
    intro o170 ho170
    rw [hR.ref 51 (by first | decide | assumption)] at ho170
    subst ho170
    refine ⟨arr 51, rfl, ?_⟩
    refine ⟨by rw [hR.len 51 (by first | decide | assumption)]; exact hp.1, ?_⟩
    replace hp := hp.2
    refine ⟨by rw [hR.len 20 (by first | decide | assumption)]; exact hp.1, ?_⟩
    replace hp := hp.2
    intro s174 hs174
    have h2 := abs_setA hR 20 (by first | decide | assumption) hs174
    replace hR := hR.setA hs174
    replace hp := hp _ h2
    clear h2 hs174
    refine q_X12_moves hR hp (fun s176 hR hp => ?_)
    exact hq _ hR hp
set_option maxRecDepth 100000 in
set_option maxHeartbeats 1000000 in
theorem q_X12_face_136 {a0 : Nat} {arr : Nat → Nat} {P : MS → Prop} {Q : St → Prop} (hq : ∀ (s : St), RF a0 arr s → P (absM a0 arr s) → Q s) : ∀ (x1 : Int32) (x2 : Int32) (x3 : Int32) (x4 : Int32) (xs1 : Int32) (σ : St), RF a0 arr σ → p_X12_face_136 P  x1 x2 x3 x4 xs1 (absM a0 arr σ) → w_X12_face_136 Q  a0 x1 x2 x3 x4 a0 xs1 σ := by
  intro x1 x2 x3 x4 xs1 σ hR hp
  unfold p_X12_face_136 at hp
  unfold w_X12_face_136
  refine q_X12_holds hR hp (fun x62 s63 hR hp => ?_)
  refine ⟨fun c => ?_, fun c => ?_⟩
  · replace hp := hp.1 c
    exact hq _ hR hp
  · replace hp := hp.2 c
    intro o65 ho65
    rw [hR.ref 6 (by first | decide | assumption)] at ho65
    subst ho65
    refine ⟨arr 6, rfl, ?_⟩
    refine ⟨by rw [hR.len 6 (by first | decide | assumption)]; exact hp.1, ?_⟩
    replace hp := hp.2
    intro s68 hs68
    have h2 := abs_setA hR 6 (by first | decide | assumption) hs68
    replace hR := hR.setA hs68
    replace hp := hp _ h2
    clear h2 hs68
    intro o69 ho69
    rw [hR.ref 7 (by first | decide | assumption)] at ho69
    subst ho69
    refine ⟨arr 7, rfl, ?_⟩
    refine ⟨by rw [hR.len 7 (by first | decide | assumption)]; exact hp.1, ?_⟩
    replace hp := hp.2
    intro s72 hs72
    have h2 := abs_setA hR 7 (by first | decide | assumption) hs72
    replace hR := hR.setA hs72
    replace hp := hp _ h2
    clear h2 hs72
    intro o73 ho73
    rw [hR.ref 8 (by first | decide | assumption)] at ho73
    subst ho73
    refine ⟨arr 8, rfl, ?_⟩
    refine ⟨by rw [hR.len 8 (by first | decide | assumption)]; exact hp.1, ?_⟩
    replace hp := hp.2
    intro s76 hs76
    have h2 := abs_setA hR 8 (by first | decide | assumption) hs76
    replace hR := hR.setA hs76
    replace hp := hp _ h2
    clear h2 hs76
    exact hq _ hR hp
set_option maxRecDepth 100000 in
set_option maxHeartbeats 1000000 in
theorem q_X12_face_105 {a0 : Nat} {arr : Nat → Nat} {P : MS → Prop} {Q : St → Prop} (hq : ∀ (s : St), RF a0 arr s → P (absM a0 arr s) → Q s) : ∀ (x1 : Int32) (x2 : Int32) (x3 : Int32) (x4 : Int32) (x5 : Int32) (x7 : Int32) (xs0 : Int32) (σ : St), RF a0 arr σ → p_X12_face_105 P  x1 x2 x3 x4 x5 x7 xs0 (absM a0 arr σ) → w_X12_face_105 Q  a0 x1 x2 x3 x4 x5 x7 xs0 σ := by
  intro x1 x2 x3 x4 x5 x7 xs0 σ hR hp
  unfold p_X12_face_105 at hp
  unfold w_X12_face_105
  refine ⟨fun c => ?_, fun c => ?_⟩
  · replace hp := hp.1 c
    refine ⟨fun c => ?_, fun c => ?_⟩
    · replace hp := hp.1 c
      refine ⟨fun c => ?_, fun c => ?_⟩
      · replace hp := hp.1 c
        exact q_X12_face_136 hq _ _ _ _ _ _ hR hp
      · replace hp := hp.2 c
        exact q_X12_face_136 hq _ _ _ _ _ _ hR hp
    · replace hp := hp.2 c
      exact q_X12_face_136 hq _ _ _ _ _ _ hR hp
  · replace hp := hp.2 c
    exact q_X12_face_136 hq _ _ _ _ _ _ hR hp
set_option maxRecDepth 100000 in
set_option maxHeartbeats 1000000 in
theorem q_X12_face_104 {a0 : Nat} {arr : Nat → Nat} {P : MS → Prop} {Q : St → Prop} (hq : ∀ (s : St), RF a0 arr s → P (absM a0 arr s) → Q s) : ∀ (x1 : Int32) (x2 : Int32) (x3 : Int32) (x4 : Int32) (x5 : Int32) (x7 : Int32) (σ : St), RF a0 arr σ → p_X12_face_104 P  x1 x2 x3 x4 x5 x7 (absM a0 arr σ) → w_X12_face_104 Q  a0 x1 x2 x3 x4 x5 x7 σ := by
  intro x1 x2 x3 x4 x5 x7 σ hR hp
  unfold p_X12_face_104 at hp
  unfold w_X12_face_104
  exact q_X12_face_105 hq _ _ _ _ _ _ _ _ hR hp
set_option maxRecDepth 100000 in
set_option maxHeartbeats 1000000 in
theorem q_X12_face_65 {a0 : Nat} {arr : Nat → Nat} {P : MS → Prop} {Q : St → Prop} (hq : ∀ (s : St), RF a0 arr s → P (absM a0 arr s) → Q s) : ∀ (x1 : Int32) (x2 : Int32) (x3 : Int32) (x4 : Int32) (x5 : Int32) (xs0 : Int32) (σ : St), RF a0 arr σ → p_X12_face_65 P  x1 x2 x3 x4 x5 xs0 (absM a0 arr σ) → w_X12_face_65 Q  a0 x1 x2 x3 x4 x5 xs0 σ := by
  intro x1 x2 x3 x4 x5 xs0 σ hR hp
  unfold p_X12_face_65 at hp
  unfold w_X12_face_65
  refine ⟨fun c => ?_, fun c => ?_⟩
  · replace hp := hp.1 c
    exact q_X12_face_104 hq _ _ _ _ _ _ _ hR hp
  · replace hp := hp.2 c
    refine q_X12_isEmpty hR hp (fun x77 s78 hR hp => ?_)
    refine ⟨fun c => ?_, fun c => ?_⟩
    · replace hp := hp.1 c
      exact q_X12_face_104 hq _ _ _ _ _ _ _ hR hp
    · replace hp := hp.2 c
      refine ⟨fun c => ?_, fun c => ?_⟩
      · replace hp := hp.1 c
        exact q_X12_face_105 hq _ _ _ _ _ _ _ _ hR hp
      · replace hp := hp.2 c
        intro o81 ho81
        rw [hR.ref 9 (by first | decide | assumption)] at ho81
        subst ho81
        refine ⟨arr 9, rfl, ?_⟩
        refine ⟨by rw [hR.len 9 (by first | decide | assumption)]; exact hp.1, ?_⟩
        replace hp := hp.2
        intro o84 ho84
        rw [hR.ref 4 (by first | decide | assumption)] at ho84
        subst ho84
        refine ⟨arr 4, rfl, ?_⟩
        refine ⟨by rw [hR.len 4 (by first | decide | assumption)]; exact hp.1, ?_⟩
        replace hp := hp.2
        refine ⟨fun c => ?_, fun c => ?_⟩
        · replace hp := hp.1 c
          exact q_X12_face_104 hq _ _ _ _ _ _ _ hR hp
        · replace hp := hp.2 c
          exact q_X12_face_105 hq _ _ _ _ _ _ _ _ hR hp
set_option maxRecDepth 100000 in
set_option maxHeartbeats 1000000 in
theorem q_X12_face_64 {a0 : Nat} {arr : Nat → Nat} {P : MS → Prop} {Q : St → Prop} (hq : ∀ (s : St), RF a0 arr s → P (absM a0 arr s) → Q s) : ∀ (x1 : Int32) (x2 : Int32) (x3 : Int32) (x4 : Int32) (x5 : Int32) (σ : St), RF a0 arr σ → p_X12_face_64 P  x1 x2 x3 x4 x5 (absM a0 arr σ) → w_X12_face_64 Q  a0 x1 x2 x3 x4 x5 σ := by
  intro x1 x2 x3 x4 x5 σ hR hp
  unfold p_X12_face_64 at hp
  unfold w_X12_face_64
  exact q_X12_face_65 hq _ _ _ _ _ _ _ hR hp
set_option maxRecDepth 100000 in
set_option maxHeartbeats 1000000 in
theorem q_X12_face_37 {a0 : Nat} {arr : Nat → Nat} {P : MS → Prop} {Q : St → Prop} (hq : ∀ (s : St), RF a0 arr s → P (absM a0 arr s) → Q s) : ∀ (x1 : Int32) (x2 : Int32) (x3 : Int32) (x4 : Int32) (x5 : Int32) (xs0 : Int32) (σ : St), RF a0 arr σ → p_X12_face_37 P  x1 x2 x3 x4 x5 xs0 (absM a0 arr σ) → w_X12_face_37 Q  a0 x1 x2 x3 x4 x5 xs0 σ := by
  intro x1 x2 x3 x4 x5 xs0 σ hR hp
  unfold p_X12_face_37 at hp
  unfold w_X12_face_37
  refine q_X12_isIn hR hp (fun x55 s56 hR hp => ?_)
  refine ⟨fun c => ?_, fun c => ?_⟩
  · replace hp := hp.1 c
    exact q_X12_face_64 hq _ _ _ _ _ _ hR hp
  · replace hp := hp.2 c
    refine q_X12_isIn hR hp (fun x88 s89 hR hp => ?_)
    refine ⟨fun c => ?_, fun c => ?_⟩
    · replace hp := hp.1 c
      exact q_X12_face_64 hq _ _ _ _ _ _ hR hp
    · replace hp := hp.2 c
      exact q_X12_face_65 hq _ _ _ _ _ _ _ hR hp
set_option maxRecDepth 100000 in
set_option maxHeartbeats 1000000 in
theorem q_X12_face_24 {a0 : Nat} {arr : Nat → Nat} {P : MS → Prop} {Q : St → Prop} (hq : ∀ (s : St), RF a0 arr s → P (absM a0 arr s) → Q s) : ∀ (x1 : Int32) (x2 : Int32) (x3 : Int32) (x4 : Int32) (xs0 : Int32) (σ : St), RF a0 arr σ → p_X12_face_24 P  x1 x2 x3 x4 xs0 (absM a0 arr σ) → w_X12_face_24 Q  a0 x1 x2 x3 x4 xs0 σ := by
  intro x1 x2 x3 x4 xs0 σ hR hp
  unfold p_X12_face_24 at hp
  unfold w_X12_face_24
  refine ⟨fun c => ?_, fun c => ?_⟩
  · replace hp := hp.1 c
    exact q_X12_face_37 hq _ _ _ _ _ _ _ hR hp
  · replace hp := hp.2 c
    exact q_X12_face_37 hq _ _ _ _ _ _ _ hR hp
set_option maxRecDepth 100000 in
set_option maxHeartbeats 1000000 in
theorem q_X12_face_23 {a0 : Nat} {arr : Nat → Nat} {P : MS → Prop} {Q : St → Prop} (hq : ∀ (s : St), RF a0 arr s → P (absM a0 arr s) → Q s) : ∀ (x1 : Int32) (x2 : Int32) (x3 : Int32) (x4 : Int32) (σ : St), RF a0 arr σ → p_X12_face_23 P  x1 x2 x3 x4 (absM a0 arr σ) → w_X12_face_23 Q  a0 x1 x2 x3 x4 σ := by
  intro x1 x2 x3 x4 σ hR hp
  unfold p_X12_face_23 at hp
  unfold w_X12_face_23
  exact q_X12_face_24 hq _ _ _ _ _ _ hR hp
set_option maxRecDepth 100000 in
set_option maxHeartbeats 1000000 in
theorem q_X12_face {a0 : Nat} {arr : Nat → Nat} {σ : St} {x1 : Int32} {x2 : Int32} {x3 : Int32} {x4 : Int32} (hR : RF a0 arr σ) {P : MS → Prop} (hp : p_X12_face x1 x2 x3 x4 (absM a0 arr σ) P) {Q : St → Prop} (hq : ∀ (s : St), RF a0 arr s → P (absM a0 arr s) → Q s) : w_X12_face a0 x1 x2 x3 x4 σ Q := by
  unfold p_X12_face at hp
  unfold w_X12_face
  refine q_X12_isSlot hR hp (fun x51 s52 hR hp => ?_)
  refine ⟨fun c => ?_, fun c => ?_⟩
  · replace hp := hp.1 c
    exact q_X12_face_23 hq _ _ _ _ _ hR hp
  · replace hp := hp.2 c
    refine ⟨fun c => ?_, fun c => ?_⟩
    · replace hp := hp.1 c
      exact q_X12_face_24 hq _ _ _ _ _ _ hR hp
    · replace hp := hp.2 c
      refine q_X12_isItem hR hp (fun x92 s93 hR hp => ?_)
      refine ⟨fun c => ?_, fun c => ?_⟩
      · replace hp := hp.1 c
        exact q_X12_face_23 hq _ _ _ _ _ hR hp
      · replace hp := hp.2 c
        exact q_X12_face_24 hq _ _ _ _ _ _ hR hp
set_option maxRecDepth 100000 in
set_option maxHeartbeats 1000000 in
theorem q_X12_free {a0 : Nat} {arr : Nat → Nat} {σ : St} {x1 : Int32} {x2 : Int32} (hR : RF a0 arr σ) {P : Int32 → MS → Prop} (hp : p_X12_free x1 x2 (absM a0 arr σ) P) {Q : Int32 → St → Prop} (hq : ∀ (r : Int32) (s : St), RF a0 arr s → P r (absM a0 arr s) → Q r s) : w_X12_free a0 x1 x2 σ Q := by
  unfold p_X12_free at hp
  unfold w_X12_free
  refine q_X12_isAsked hR hp (fun x51 s52 hR hp => ?_)
  refine ⟨fun c => ?_, fun c => ?_⟩
  · replace hp := hp.1 c
    exact hq _ _ hR hp
  · replace hp := hp.2 c
    refine q_X12_freeAt hR hp (fun x54 s55 hR hp => ?_)
    exact hq _ _ hR hp
set_option maxRecDepth 100000 in
set_option maxHeartbeats 1000000 in
theorem q_X12_holdsFor_219 {a0 : Nat} {arr : Nat → Nat} {P : Int32 → MS → Prop} {Q : Int32 → St → Prop} (hq : ∀ (r : Int32) (s : St), RF a0 arr s → P r (absM a0 arr s) → Q r s) {K33 : Nat → Int32 → Int32 → Int32 → Int32 → Int32 → Int32 → St → Prop} {LK33 : Int32 → Int32 → Int32 → Int32 → Int32 → Int32 → MS → Prop} (hK33 : ∀ (y1 : Int32) (y2 : Int32) (y3 : Int32) (y4 : Int32) (y5 : Int32) (y6 : Int32) (y7 : St), RF a0 arr y7 → LK33 y1 y2 y3 y4 y5 y6 (absM a0 arr y7) → K33 a0 y1 y2 y3 y4 y5 y6 y7) : ∀ (x1 : Int32) (x3 : Int32) (x4 : Int32) (x5 : Int32) (x6 : Int32) (x7 : Int32) (σ : St), RF a0 arr σ → p_X12_holdsFor_219 P LK33 x1 x3 x4 x5 x6 x7 (absM a0 arr σ) → w_X12_holdsFor_219 Q K33 a0 x1 x3 x4 x5 x6 x7 σ := by
  intro x1 x3 x4 x5 x6 x7 σ hR hp
  unfold p_X12_holdsFor_219 at hp
  unfold w_X12_holdsFor_219
  refine q_X12_nextLot hR hp (fun x69 s70 hR hp => ?_)
  exact hK33 _ _ _ _ _ _ _ hR hp
set_option maxRecDepth 100000 in
set_option maxHeartbeats 1000000 in
theorem q_X12_holdsFor_117 {a0 : Nat} {arr : Nat → Nat} {P : Int32 → MS → Prop} {Q : Int32 → St → Prop} (hq : ∀ (r : Int32) (s : St), RF a0 arr s → P r (absM a0 arr s) → Q r s) {K33 : Nat → Int32 → Int32 → Int32 → Int32 → Int32 → Int32 → St → Prop} {LK33 : Int32 → Int32 → Int32 → Int32 → Int32 → Int32 → MS → Prop} (hK33 : ∀ (y1 : Int32) (y2 : Int32) (y3 : Int32) (y4 : Int32) (y5 : Int32) (y6 : Int32) (y7 : St), RF a0 arr y7 → LK33 y1 y2 y3 y4 y5 y6 (absM a0 arr y7) → K33 a0 y1 y2 y3 y4 y5 y6 y7) {K70 : Nat → Int32 → Int32 → Int32 → Int32 → Int32 → Int32 → Int32 → Int32 → St → Prop} {LK70 : Int32 → Int32 → Int32 → Int32 → Int32 → Int32 → Int32 → Int32 → MS → Prop} (hK70 : ∀ (y1 : Int32) (y2 : Int32) (y3 : Int32) (y4 : Int32) (y5 : Int32) (y6 : Int32) (y7 : Int32) (y8 : Int32) (y9 : St), RF a0 arr y9 → LK70 y1 y2 y3 y4 y5 y6 y7 y8 (absM a0 arr y9) → K70 a0 y1 y2 y3 y4 y5 y6 y7 y8 y9) : ∀ (x1 : Int32) (x3 : Int32) (x4 : Int32) (x5 : Int32) (x6 : Int32) (x7 : Int32) (x8 : Int32) (x9 : Int32) (x10 : Int32) (xs0 : Int32) (xs1 : Int32) (σ : St), RF a0 arr σ → p_X12_holdsFor_117 P LK33 LK70 x1 x3 x4 x5 x6 x7 x8 x9 x10 xs0 xs1 (absM a0 arr σ) → w_X12_holdsFor_117 Q K33 K70 a0 x1 x3 x4 x5 x6 x7 x8 x9 x10 xs0 xs1 σ := by
  intro x1 x3 x4 x5 x6 x7 x8 x9 x10 xs0 xs1 σ hR hp
  unfold p_X12_holdsFor_117 at hp
  unfold w_X12_holdsFor_117
  refine ⟨fun c => ?_, fun c => ?_⟩
  · replace hp := hp.1 c
    exact hK70 _ _ _ _ _ _ _ _ _ hR hp
  · replace hp := hp.2 c
    refine q_X12_freeAt hR hp (fun x79 s80 hR hp => ?_)
    refine q_X12_less hR hp (fun x81 s82 hR hp => ?_)
    refine ⟨fun c => ?_, fun c => ?_⟩
    · replace hp := hp.1 c
      exact hK70 _ _ _ _ _ _ _ _ _ hR hp
    · replace hp := hp.2 c
      intro o84 ho84
      rw [hR.ref 40 (by first | decide | assumption)] at ho84
      subst ho84
      refine ⟨arr 40, rfl, ?_⟩
      refine ⟨by rw [hR.len 40 (by first | decide | assumption)]; exact hp.1, ?_⟩
      replace hp := hp.2
      intro s87 hs87
      have h2 := abs_setA hR 40 (by first | decide | assumption) hs87
      replace hR := hR.setA hs87
      replace hp := hp _ h2
      clear h2 hs87
      intro o88 ho88
      rw [hR.ref 41 (by first | decide | assumption)] at ho88
      subst ho88
      refine ⟨arr 41, rfl, ?_⟩
      refine ⟨by rw [hR.len 41 (by first | decide | assumption)]; exact hp.1, ?_⟩
      replace hp := hp.2
      intro s91 hs91
      have h2 := abs_setA hR 41 (by first | decide | assumption) hs91
      replace hR := hR.setA hs91
      replace hp := hp _ h2
      clear h2 hs91
      intro o92 ho92
      rw [hR.ref 42 (by first | decide | assumption)] at ho92
      subst ho92
      refine ⟨arr 42, rfl, ?_⟩
      refine ⟨by rw [hR.len 42 (by first | decide | assumption)]; exact hp.1, ?_⟩
      replace hp := hp.2
      intro s95 hs95
      have h2 := abs_setA hR 42 (by first | decide | assumption) hs95
      replace hR := hR.setA hs95
      replace hp := hp _ h2
      clear h2 hs95
      intro o96 ho96
      rw [hR.ref 43 (by first | decide | assumption)] at ho96
      subst ho96
      refine ⟨arr 43, rfl, ?_⟩
      refine ⟨by rw [hR.len 43 (by first | decide | assumption)]; exact hp.1, ?_⟩
      replace hp := hp.2
      intro s99 hs99
      have h2 := abs_setA hR 43 (by first | decide | assumption) hs99
      replace hR := hR.setA hs99
      replace hp := hp _ h2
      clear h2 hs99
      intro o100 ho100
      rw [hR.ref 44 (by first | decide | assumption)] at ho100
      subst ho100
      refine ⟨arr 44, rfl, ?_⟩
      refine ⟨by rw [hR.len 44 (by first | decide | assumption)]; exact hp.1, ?_⟩
      replace hp := hp.2
      intro s103 hs103
      have h2 := abs_setA hR 44 (by first | decide | assumption) hs103
      replace hR := hR.setA hs103
      replace hp := hp _ h2
      clear h2 hs103
      intro s104 hs104
      have h2 := abs_setI (arr := arr) 39 (by first | decide | assumption) hs104
      replace hR := hR.setI hs104
      replace hp := hp _ h2
      clear h2 hs104
      intro x105 hx105
      replace hp := hp x105 hx105
      exact hK70 _ _ _ _ _ _ _ _ _ hR hp
set_option maxRecDepth 100000 in
set_option maxHeartbeats 1000000 in
theorem q_X12_holdsFor_101 {a0 : Nat} {arr : Nat → Nat} {P : Int32 → MS → Prop} {Q : Int32 → St → Prop} (hq : ∀ (r : Int32) (s : St), RF a0 arr s → P r (absM a0 arr s) → Q r s) {K33 : Nat → Int32 → Int32 → Int32 → Int32 → Int32 → Int32 → St → Prop} {LK33 : Int32 → Int32 → Int32 → Int32 → Int32 → Int32 → MS → Prop} (hK33 : ∀ (y1 : Int32) (y2 : Int32) (y3 : Int32) (y4 : Int32) (y5 : Int32) (y6 : Int32) (y7 : St), RF a0 arr y7 → LK33 y1 y2 y3 y4 y5 y6 (absM a0 arr y7) → K33 a0 y1 y2 y3 y4 y5 y6 y7) {K70 : Nat → Int32 → Int32 → Int32 → Int32 → Int32 → Int32 → Int32 → Int32 → St → Prop} {LK70 : Int32 → Int32 → Int32 → Int32 → Int32 → Int32 → Int32 → Int32 → MS → Prop} (hK70 : ∀ (y1 : Int32) (y2 : Int32) (y3 : Int32) (y4 : Int32) (y5 : Int32) (y6 : Int32) (y7 : Int32) (y8 : Int32) (y9 : St), RF a0 arr y9 → LK70 y1 y2 y3 y4 y5 y6 y7 y8 (absM a0 arr y9) → K70 a0 y1 y2 y3 y4 y5 y6 y7 y8 y9) : ∀ (x1 : Int32) (x3 : Int32) (x4 : Int32) (x5 : Int32) (x6 : Int32) (x7 : Int32) (x8 : Int32) (x9 : Int32) (x10 : Int32) (xs0 : Int32) (σ : St), RF a0 arr σ → p_X12_holdsFor_101 P LK33 LK70 x1 x3 x4 x5 x6 x7 x8 x9 x10 xs0 (absM a0 arr σ) → w_X12_holdsFor_101 Q K33 K70 a0 x1 x3 x4 x5 x6 x7 x8 x9 x10 xs0 σ := by
  intro x1 x3 x4 x5 x6 x7 x8 x9 x10 xs0 σ hR hp
  unfold p_X12_holdsFor_101 at hp
  unfold w_X12_holdsFor_101
  intro o74 ho74
  rw [hR.ref 6 (by first | decide | assumption)] at ho74
  subst ho74
  refine ⟨arr 6, rfl, ?_⟩
  refine ⟨by rw [hR.len 6 (by first | decide | assumption)]; exact hp.1, ?_⟩
  replace hp := hp.2
  refine ⟨fun c => ?_, fun c => ?_⟩
  · replace hp := hp.1 c
    exact q_X12_holdsFor_117 hq hK33 hK70 _ _ _ _ _ _ _ _ _ _ _ _ hR hp
  · replace hp := hp.2 c
    exact q_X12_holdsFor_117 hq hK33 hK70 _ _ _ _ _ _ _ _ _ _ _ _ hR hp
set_option maxRecDepth 100000 in
set_option maxHeartbeats 1000000 in
theorem q_X12_holdsFor_70 {a0 : Nat} {arr : Nat → Nat} {P : Int32 → MS → Prop} {Q : Int32 → St → Prop} (hq : ∀ (r : Int32) (s : St), RF a0 arr s → P r (absM a0 arr s) → Q r s) {K33 : Nat → Int32 → Int32 → Int32 → Int32 → Int32 → Int32 → St → Prop} {LK33 : Int32 → Int32 → Int32 → Int32 → Int32 → Int32 → MS → Prop} (hK33 : ∀ (y1 : Int32) (y2 : Int32) (y3 : Int32) (y4 : Int32) (y5 : Int32) (y6 : Int32) (y7 : St), RF a0 arr y7 → LK33 y1 y2 y3 y4 y5 y6 (absM a0 arr y7) → K33 a0 y1 y2 y3 y4 y5 y6 y7) : ∀ (f : Nat) (x1 : Int32) (x3 : Int32) (x4 : Int32) (x5 : Int32) (x6 : Int32) (x7 : Int32) (x8 : Int32) (x9 : Int32) (σ : St), RF a0 arr σ → p_X12_holdsFor_70 P LK33 f x1 x3 x4 x5 x6 x7 x8 x9 (absM a0 arr σ) → w_X12_holdsFor_70 Q K33 f a0 x1 x3 x4 x5 x6 x7 x8 x9 σ := by
  intro f
  induction f with
  | zero => intro x1 x3 x4 x5 x6 x7 x8 x9 σ hR hp; exact hp.elim
  | succ f ih =>
    intro x1 x3 x4 x5 x6 x7 x8 x9 σ hR hp
    unfold p_X12_holdsFor_70 at hp
    unfold w_X12_holdsFor_70
    refine ⟨fun c => ?_, fun c => ?_⟩
    · replace hp := hp.1 c
      exact q_X12_holdsFor_219 hq hK33 _ _ _ _ _ _ _ hR hp
    · replace hp := hp.2 c
      refine ⟨fun c => ?_, fun c => ?_⟩
      · replace hp := hp.1 c
        exact q_X12_holdsFor_219 hq hK33 _ _ _ _ _ _ _ hR hp
      · replace hp := hp.2 c
        intro x72 hx72
        replace hp := hp x72 hx72
        refine ⟨fun c => ?_, fun c => ?_⟩
        · replace hp := hp.1 c
          exact q_X12_holdsFor_101 hq hK33 ih _ _ _ _ _ _ _ _ _ _ _ hR hp
        · replace hp := hp.2 c
          exact q_X12_holdsFor_101 hq hK33 ih _ _ _ _ _ _ _ _ _ _ _ hR hp
set_option maxRecDepth 100000 in
set_option maxHeartbeats 1000000 in
theorem q_X12_holdsFor_33 {a0 : Nat} {arr : Nat → Nat} {P : Int32 → MS → Prop} {Q : Int32 → St → Prop} (hq : ∀ (r : Int32) (s : St), RF a0 arr s → P r (absM a0 arr s) → Q r s) : ∀ (f : Nat) (x1 : Int32) (x3 : Int32) (x4 : Int32) (x5 : Int32) (x6 : Int32) (x7 : Int32) (σ : St), RF a0 arr σ → p_X12_holdsFor_33 P  f x1 x3 x4 x5 x6 x7 (absM a0 arr σ) → w_X12_holdsFor_33 Q  f a0 x1 x3 x4 x5 x6 x7 σ := by
  intro f
  induction f with
  | zero => intro x1 x3 x4 x5 x6 x7 σ hR hp; exact hp.elim
  | succ f ih =>
    intro x1 x3 x4 x5 x6 x7 σ hR hp
    unfold p_X12_holdsFor_33 at hp
    unfold w_X12_holdsFor_33
    refine ⟨fun c => ?_, fun c => ?_⟩
    · replace hp := hp.1 c
      exact hq _ _ hR hp
    · replace hp := hp.2 c
      intro o61 ho61
      rw [hR.ref 17 (by first | decide | assumption)] at ho61
      subst ho61
      refine ⟨arr 17, rfl, ?_⟩
      refine ⟨by rw [hR.len 17 (by first | decide | assumption)]; exact hp.1, ?_⟩
      replace hp := hp.2
      intro o64 ho64
      rw [hR.ref 30 (by first | decide | assumption)] at ho64
      subst ho64
      refine ⟨arr 30, rfl, ?_⟩
      refine ⟨by rw [hR.len 30 (by first | decide | assumption)]; exact hp.1, ?_⟩
      replace hp := hp.2
      refine ⟨fun c => ?_, fun c => ?_⟩
      · replace hp := hp.1 c
        obtain ⟨f106, hp⟩ := hp
        refine ⟨f106, ?_⟩
        exact q_X12_holdsFor_70 hq ih f106 _ _ _ _ _ _ _ _ _ hR hp
      · replace hp := hp.2 c
        obtain ⟨f107, hp⟩ := hp
        refine ⟨f107, ?_⟩
        exact q_X12_holdsFor_70 hq ih f107 _ _ _ _ _ _ _ _ _ hR hp
set_option maxRecDepth 100000 in
set_option maxHeartbeats 1000000 in
theorem q_X12_holdsFor {a0 : Nat} {arr : Nat → Nat} {σ : St} {x1 : Int32} {x2 : Int32} (hR : RF a0 arr σ) {P : Int32 → MS → Prop} (hp : p_X12_holdsFor x1 x2 (absM a0 arr σ) P) {Q : Int32 → St → Prop} (hq : ∀ (r : Int32) (s : St), RF a0 arr s → P r (absM a0 arr s) → Q r s) : w_X12_holdsFor a0 x1 x2 σ Q := by
  unfold p_X12_holdsFor at hp
  unfold w_X12_holdsFor
  intro x51 hx51
  replace hp := hp x51 hx51
  intro o52 ho52
  rw [hR.ref 36 (by first | decide | assumption)] at ho52
  subst ho52
  refine ⟨arr 36, rfl, ?_⟩
  refine ⟨by rw [hR.len 36 (by first | decide | assumption)]; exact hp.1, ?_⟩
  replace hp := hp.2
  intro x55 hx55
  replace hp := hp x55 hx55
  refine q_X12_lacking hR hp (fun x56 s57 hR hp => ?_)
  refine q_X12_nextLot hR hp (fun x58 s59 hR hp => ?_)
  obtain ⟨f108, hp⟩ := hp
  refine ⟨f108, ?_⟩
  exact q_X12_holdsFor_33 hq f108 _ _ _ _ _ _ _ hR hp
set_option maxRecDepth 100000 in
set_option maxHeartbeats 1000000 in
theorem q_X12_isBarredAt_52 {a0 : Nat} {arr : Nat → Nat} {P : Int32 → MS → Prop} {Q : Int32 → St → Prop} (hq : ∀ (r : Int32) (s : St), RF a0 arr s → P r (absM a0 arr s) → Q r s) : ∀ (x1 : Int32) (x2 : Int32) (x4 : Int32) (σ : St), RF a0 arr σ → p_X12_isBarredAt_52 P  x1 x2 x4 (absM a0 arr σ) → w_X12_isBarredAt_52 Q  a0 x1 x2 x4 σ := by
  intro x1 x2 x4 σ hR hp
  unfold p_X12_isBarredAt_52 at hp
  unfold w_X12_isBarredAt_52
  refine ⟨fun c => ?_, fun c => ?_⟩
  · replace hp := hp.1 c
    exact hq _ _ hR hp
  · replace hp := hp.2 c
    refine q_X12_isBarredIn hR hp (fun x58 s59 hR hp => ?_)
    refine ⟨fun c => ?_, fun c => ?_⟩
    · replace hp := hp.1 c
      exact hq _ _ hR hp
    · replace hp := hp.2 c
      exact hq _ _ hR hp
set_option maxRecDepth 100000 in
set_option maxHeartbeats 1000000 in
theorem q_X12_isBarredAt_26 {a0 : Nat} {arr : Nat → Nat} {P : Int32 → MS → Prop} {Q : Int32 → St → Prop} (hq : ∀ (r : Int32) (s : St), RF a0 arr s → P r (absM a0 arr s) → Q r s) : ∀ (x1 : Int32) (x2 : Int32) (x3 : Int32) (xs0 : Int32) (σ : St), RF a0 arr σ → p_X12_isBarredAt_26 P  x1 x2 x3 xs0 (absM a0 arr σ) → w_X12_isBarredAt_26 Q  a0 x1 x2 x3 xs0 σ := by
  intro x1 x2 x3 xs0 σ hR hp
  unfold p_X12_isBarredAt_26 at hp
  unfold w_X12_isBarredAt_26
  refine q_X12_isBarredIn hR hp (fun x53 s54 hR hp => ?_)
  refine ⟨fun c => ?_, fun c => ?_⟩
  · replace hp := hp.1 c
    exact hq _ _ hR hp
  · replace hp := hp.2 c
    refine ⟨fun c => ?_, fun c => ?_⟩
    · replace hp := hp.1 c
      exact q_X12_isBarredAt_52 hq _ _ _ _ hR hp
    · replace hp := hp.2 c
      refine q_X12_isBarredIn hR hp (fun x61 s62 hR hp => ?_)
      refine ⟨fun c => ?_, fun c => ?_⟩
      · replace hp := hp.1 c
        exact hq _ _ hR hp
      · replace hp := hp.2 c
        exact q_X12_isBarredAt_52 hq _ _ _ _ hR hp
set_option maxRecDepth 100000 in
set_option maxHeartbeats 1000000 in
theorem q_X12_isBarredAt_12 {a0 : Nat} {arr : Nat → Nat} {P : Int32 → MS → Prop} {Q : Int32 → St → Prop} (hq : ∀ (r : Int32) (s : St), RF a0 arr s → P r (absM a0 arr s) → Q r s) : ∀ (x1 : Int32) (x2 : Int32) (xs0 : Int32) (σ : St), RF a0 arr σ → p_X12_isBarredAt_12 P  x1 x2 xs0 (absM a0 arr σ) → w_X12_isBarredAt_12 Q  a0 x1 x2 xs0 σ := by
  intro x1 x2 xs0 σ hR hp
  unfold p_X12_isBarredAt_12 at hp
  unfold w_X12_isBarredAt_12
  refine ⟨fun c => ?_, fun c => ?_⟩
  · replace hp := hp.1 c
    exact q_X12_isBarredAt_26 hq _ _ _ _ _ hR hp
  · replace hp := hp.2 c
    exact q_X12_isBarredAt_26 hq _ _ _ _ _ hR hp
set_option maxRecDepth 100000 in
set_option maxHeartbeats 1000000 in
theorem q_X12_isBarredAt {a0 : Nat} {arr : Nat → Nat} {σ : St} {x1 : Int32} {x2 : Int32} (hR : RF a0 arr σ) {P : Int32 → MS → Prop} (hp : p_X12_isBarredAt x1 x2 (absM a0 arr σ) P) {Q : Int32 → St → Prop} (hq : ∀ (r : Int32) (s : St), RF a0 arr s → P r (absM a0 arr s) → Q r s) : w_X12_isBarredAt a0 x1 x2 σ Q := by
  unfold p_X12_isBarredAt at hp
  unfold w_X12_isBarredAt
  refine ⟨fun c => ?_, fun c => ?_⟩
  · replace hp := hp.1 c
    exact q_X12_isBarredAt_12 hq _ _ _ _ hR hp
  · replace hp := hp.2 c
    exact q_X12_isBarredAt_12 hq _ _ _ _ hR hp
set_option maxRecDepth 100000 in
set_option maxHeartbeats 1000000 in
theorem q_X12_refills_225 {a0 : Nat} {arr : Nat → Nat} {P : Int32 → MS → Prop} {Q : Int32 → St → Prop} (hq : ∀ (r : Int32) (s : St), RF a0 arr s → P r (absM a0 arr s) → Q r s) : ∀ (x7 : Int32) (σ : St), RF a0 arr σ → p_X12_refills_225 P  x7 (absM a0 arr σ) → w_X12_refills_225 Q  x7 σ := by
  intro x7 σ hR hp
  unfold p_X12_refills_225 at hp
  unfold w_X12_refills_225
  refine ⟨fun c => ?_, fun c => ?_⟩
  · replace hp := hp.1 c
    exact hq _ _ hR hp
  · replace hp := hp.2 c
    exact hq _ _ hR hp
set_option maxRecDepth 100000 in
set_option maxHeartbeats 1000000 in
theorem q_X12_refills_203 {a0 : Nat} {arr : Nat → Nat} {P : Int32 → MS → Prop} {Q : Int32 → St → Prop} (hq : ∀ (r : Int32) (s : St), RF a0 arr s → P r (absM a0 arr s) → Q r s) : ∀ (x1 : Int32) (x4 : Int32) (x5 : Int32) (xs0 : Int32) (σ : St), RF a0 arr σ → p_X12_refills_203 P  x1 x4 x5 xs0 (absM a0 arr σ) → w_X12_refills_203 Q  a0 x1 x4 x5 xs0 σ := by
  intro x1 x4 x5 xs0 σ hR hp
  unfold p_X12_refills_203 at hp
  unfold w_X12_refills_203
  refine ⟨fun c => ?_, fun c => ?_⟩
  · replace hp := hp.1 c
    exact q_X12_refills_225 hq _ _ hR hp
  · replace hp := hp.2 c
    refine q_X12_makes hR hp (fun x94 s95 hR hp => ?_)
    exact q_X12_refills_225 hq _ _ hR hp
set_option maxRecDepth 100000 in
set_option maxHeartbeats 1000000 in
theorem q_X12_refills_145 {a0 : Nat} {arr : Nat → Nat} {P : Int32 → MS → Prop} {Q : Int32 → St → Prop} (hq : ∀ (r : Int32) (s : St), RF a0 arr s → P r (absM a0 arr s) → Q r s) {K106 : Nat → Int32 → Int32 → Int32 → Int32 → St → Prop} {LK106 : Int32 → Int32 → Int32 → Int32 → MS → Prop} (hK106 : ∀ (y1 : Int32) (y2 : Int32) (y3 : Int32) (y4 : Int32) (y5 : St), RF a0 arr y5 → LK106 y1 y2 y3 y4 (absM a0 arr y5) → K106 a0 y1 y2 y3 y4 y5) {K115 : Nat → Int32 → Int32 → Int32 → Int32 → Int32 → St → Prop} {LK115 : Int32 → Int32 → Int32 → Int32 → Int32 → MS → Prop} (hK115 : ∀ (y1 : Int32) (y2 : Int32) (y3 : Int32) (y4 : Int32) (y5 : Int32) (y6 : St), RF a0 arr y6 → LK115 y1 y2 y3 y4 y5 (absM a0 arr y6) → K115 a0 y1 y2 y3 y4 y5 y6) : ∀ (x1 : Int32) (x2 : Int32) (x3 : Int32) (x4 : Int32) (x5 : Int32) (xs0 : Int32) (σ : St), RF a0 arr σ → p_X12_refills_145 P LK106 LK115 x1 x2 x3 x4 x5 xs0 (absM a0 arr σ) → w_X12_refills_145 Q K106 K115 a0 x1 x2 x3 x4 x5 xs0 σ := by
  intro x1 x2 x3 x4 x5 xs0 σ hR hp
  unfold p_X12_refills_145 at hp
  unfold w_X12_refills_145
  refine ⟨fun c => ?_, fun c => ?_⟩
  · replace hp := hp.1 c
    exact hK115 _ _ _ _ _ _ hR hp
  · replace hp := hp.2 c
    intro o74 ho74
    rw [hR.ref 8 (by first | decide | assumption)] at ho74
    subst ho74
    refine ⟨arr 8, rfl, ?_⟩
    refine ⟨by rw [hR.len 8 (by first | decide | assumption)]; exact hp.1, ?_⟩
    replace hp := hp.2
    refine q_X12_less hR hp (fun x77 s78 hR hp => ?_)
    refine q_X12_roomLeft hR hp (fun x79 s80 hR hp => ?_)
    intro o81 ho81
    rw [hR.ref 10 (by first | decide | assumption)] at ho81
    subst ho81
    refine ⟨arr 10, rfl, ?_⟩
    refine ⟨by rw [hR.len 10 (by first | decide | assumption)]; exact hp.1, ?_⟩
    replace hp := hp.2
    refine ⟨hp.1, ?_⟩
    replace hp := hp.2
    refine q_X12_less hR hp (fun x85 s86 hR hp => ?_)
    refine ⟨fun c => ?_, fun c => ?_⟩
    · replace hp := hp.1 c
      intro o88 ho88
      rw [hR.ref 13 (by first | decide | assumption)] at ho88
      subst ho88
      refine ⟨arr 13, rfl, ?_⟩
      refine ⟨by rw [hR.len 13 (by first | decide | assumption)]; exact hp.1, ?_⟩
      replace hp := hp.2
      refine ⟨hp.1, ?_⟩
      replace hp := hp.2
      exact q_X12_refills_203 hq _ _ _ _ _ hR hp
    · replace hp := hp.2 c
      exact q_X12_refills_203 hq _ _ _ _ _ hR hp
set_option maxRecDepth 100000 in
set_option maxHeartbeats 1000000 in
theorem q_X12_refills_115 {a0 : Nat} {arr : Nat → Nat} {P : Int32 → MS → Prop} {Q : Int32 → St → Prop} (hq : ∀ (r : Int32) (s : St), RF a0 arr s → P r (absM a0 arr s) → Q r s) {K106 : Nat → Int32 → Int32 → Int32 → Int32 → St → Prop} {LK106 : Int32 → Int32 → Int32 → Int32 → MS → Prop} (hK106 : ∀ (y1 : Int32) (y2 : Int32) (y3 : Int32) (y4 : Int32) (y5 : St), RF a0 arr y5 → LK106 y1 y2 y3 y4 (absM a0 arr y5) → K106 a0 y1 y2 y3 y4 y5) : ∀ (f : Nat) (x1 : Int32) (x2 : Int32) (x3 : Int32) (x4 : Int32) (x5 : Int32) (σ : St), RF a0 arr σ → p_X12_refills_115 P LK106 f x1 x2 x3 x4 x5 (absM a0 arr σ) → w_X12_refills_115 Q K106 f a0 x1 x2 x3 x4 x5 σ := by
  intro f
  induction f with
  | zero => intro x1 x2 x3 x4 x5 σ hR hp; exact hp.elim
  | succ f ih =>
    intro x1 x2 x3 x4 x5 σ hR hp
    unfold p_X12_refills_115 at hp
    unfold w_X12_refills_115
    refine ⟨fun c => ?_, fun c => ?_⟩
    · replace hp := hp.1 c
      refine q_X12_nextLot hR hp (fun x67 s68 hR hp => ?_)
      exact hK106 _ _ _ _ _ hR hp
    · replace hp := hp.2 c
      intro o69 ho69
      rw [hR.ref 6 (by first | decide | assumption)] at ho69
      subst ho69
      refine ⟨arr 6, rfl, ?_⟩
      refine ⟨by rw [hR.len 6 (by first | decide | assumption)]; exact hp.1, ?_⟩
      replace hp := hp.2
      refine ⟨fun c => ?_, fun c => ?_⟩
      · replace hp := hp.1 c
        exact q_X12_refills_145 hq hK106 ih _ _ _ _ _ _ _ hR hp
      · replace hp := hp.2 c
        refine q_X12_freeAt hR hp (fun x96 s97 hR hp => ?_)
        exact q_X12_refills_145 hq hK106 ih _ _ _ _ _ _ _ hR hp
set_option maxRecDepth 100000 in
set_option maxHeartbeats 1000000 in
theorem q_X12_refills_106 {a0 : Nat} {arr : Nat → Nat} {P : Int32 → MS → Prop} {Q : Int32 → St → Prop} (hq : ∀ (r : Int32) (s : St), RF a0 arr s → P r (absM a0 arr s) → Q r s) : ∀ (f : Nat) (x1 : Int32) (x2 : Int32) (x3 : Int32) (x4 : Int32) (σ : St), RF a0 arr σ → p_X12_refills_106 P  f x1 x2 x3 x4 (absM a0 arr σ) → w_X12_refills_106 Q  f a0 x1 x2 x3 x4 σ := by
  intro f
  induction f with
  | zero => intro x1 x2 x3 x4 σ hR hp; exact hp.elim
  | succ f ih =>
    intro x1 x2 x3 x4 σ hR hp
    unfold p_X12_refills_106 at hp
    unfold w_X12_refills_106
    refine ⟨fun c => ?_, fun c => ?_⟩
    · replace hp := hp.1 c
      exact hq _ _ hR hp
    · replace hp := hp.2 c
      obtain ⟨f98, hp⟩ := hp
      refine ⟨f98, ?_⟩
      exact q_X12_refills_115 hq ih f98 _ _ _ _ _ _ hR hp
set_option maxRecDepth 100000 in
set_option maxHeartbeats 1000000 in
theorem q_X12_refills_17 {a0 : Nat} {arr : Nat → Nat} {P : Int32 → MS → Prop} {Q : Int32 → St → Prop} (hq : ∀ (r : Int32) (s : St), RF a0 arr s → P r (absM a0 arr s) → Q r s) : ∀ (f : Nat) (x1 : Int32) (x2 : Int32) (x3 : Int32) (x4 : Int32) (σ : St), RF a0 arr σ → p_X12_refills_17 P  f x1 x2 x3 x4 (absM a0 arr σ) → w_X12_refills_17 Q  f a0 x1 x2 x3 x4 σ := by
  intro f
  induction f with
  | zero => intro x1 x2 x3 x4 σ hR hp; exact hp.elim
  | succ f ih =>
    intro x1 x2 x3 x4 σ hR hp
    unfold p_X12_refills_17 at hp
    unfold w_X12_refills_17
    refine ⟨fun c => ?_, fun c => ?_⟩
    · replace hp := hp.1 c
      intro o58 ho58
      rw [hR.ref 7 (by first | decide | assumption)] at ho58
      subst ho58
      refine ⟨arr 7, rfl, ?_⟩
      refine ⟨by rw [hR.len 7 (by first | decide | assumption)]; exact hp.1, ?_⟩
      replace hp := hp.2
      refine ⟨fun c => ?_, fun c => ?_⟩
      · replace hp := hp.1 c
        exact hq _ _ hR hp
      · replace hp := hp.2 c
        refine ⟨fun c => ?_, fun c => ?_⟩
        · replace hp := hp.1 c
          refine q_X12_nextLot hR hp (fun x63 s64 hR hp => ?_)
          obtain ⟨f99, hp⟩ := hp
          refine ⟨f99, ?_⟩
          exact q_X12_refills_106 hq f99 _ _ _ _ _ hR hp
        · replace hp := hp.2 c
          exact hq _ _ hR hp
    · replace hp := hp.2 c
      refine q_X12_isOn hR hp (fun x100 s101 hR hp => ?_)
      refine ⟨fun c => ?_, fun c => ?_⟩
      · replace hp := hp.1 c
        intro x103 hx103
        replace hp := hp x103 hx103
        exact ih _ _ _ _ _ hR hp
      · replace hp := hp.2 c
        intro o104 ho104
        rw [hR.ref 46 (by first | decide | assumption)] at ho104
        subst ho104
        refine ⟨arr 46, rfl, ?_⟩
        refine ⟨by rw [hR.len 46 (by first | decide | assumption)]; exact hp.1, ?_⟩
        replace hp := hp.2
        refine ⟨fun c => ?_, fun c => ?_⟩
        · replace hp := hp.1 c
          intro x108 hx108
          replace hp := hp x108 hx108
          exact ih _ _ _ _ _ hR hp
        · replace hp := hp.2 c
          intro o109 ho109
          rw [hR.ref 49 (by first | decide | assumption)] at ho109
          subst ho109
          refine ⟨arr 49, rfl, ?_⟩
          refine ⟨by rw [hR.len 49 (by first | decide | assumption)]; exact hp.1, ?_⟩
          replace hp := hp.2
          refine ⟨fun c => ?_, fun c => ?_⟩
          · replace hp := hp.1 c
            intro x113 hx113
            replace hp := hp x113 hx113
            exact ih _ _ _ _ _ hR hp
          · replace hp := hp.2 c
            intro o114 ho114
            rw [hR.ref 51 (by first | decide | assumption)] at ho114
            subst ho114
            refine ⟨arr 51, rfl, ?_⟩
            refine ⟨by rw [hR.len 51 (by first | decide | assumption)]; exact hp.1, ?_⟩
            replace hp := hp.2
            intro x117 hx117
            replace hp := hp x117 hx117
            exact ih _ _ _ _ _ hR hp
set_option maxRecDepth 100000 in
set_option maxHeartbeats 1000000 in
theorem q_X12_refills {a0 : Nat} {arr : Nat → Nat} {σ : St} {x1 : Int32} (hR : RF a0 arr σ) {P : Int32 → MS → Prop} (hp : p_X12_refills x1 (absM a0 arr σ) P) {Q : Int32 → St → Prop} (hq : ∀ (r : Int32) (s : St), RF a0 arr s → P r (absM a0 arr s) → Q r s) : w_X12_refills a0 x1 σ Q := by
  unfold p_X12_refills at hp
  unfold w_X12_refills
  intro o51 ho51
  rw [hR.ref 6 (by first | decide | assumption)] at ho51
  subst ho51
  refine ⟨arr 6, rfl, ?_⟩
  refine ⟨by rw [hR.len 6 (by first | decide | assumption)]; exact hp.1, ?_⟩
  replace hp := hp.2
  intro x54 hx54
  replace hp := hp x54 hx54
  refine q_X12_itemIn hR hp (fun x55 s56 hR hp => ?_)
  obtain ⟨f118, hp⟩ := hp
  refine ⟨f118, ?_⟩
  exact q_X12_refills_17 hq f118 _ _ _ _ _ hR hp
set_option maxRecDepth 100000 in
set_option maxHeartbeats 1000000 in
theorem q_X12_room_13 {a0 : Nat} {arr : Nat → Nat} {P : Int32 → MS → Prop} {Q : Int32 → St → Prop} (hq : ∀ (r : Int32) (s : St), RF a0 arr s → P r (absM a0 arr s) → Q r s) : ∀ (x1 : Int32) (xs1 : Int32) (σ : St), RF a0 arr σ → p_X12_room_13 P  x1 xs1 (absM a0 arr σ) → w_X12_room_13 Q  a0 x1 a0 xs1 σ := by
  intro x1 xs1 σ hR hp
  unfold p_X12_room_13 at hp
  unfold w_X12_room_13
  refine q_X12_holds hR hp (fun x54 s55 hR hp => ?_)
  refine ⟨fun c => ?_, fun c => ?_⟩
  · replace hp := hp.1 c
    exact hq _ _ hR hp
  · replace hp := hp.2 c
    refine q_X12_roomLeft hR hp (fun x57 s58 hR hp => ?_)
    exact hq _ _ hR hp
set_option maxRecDepth 100000 in
set_option maxHeartbeats 1000000 in
theorem q_X12_room {a0 : Nat} {arr : Nat → Nat} {σ : St} {x1 : Int32} (hR : RF a0 arr σ) {P : Int32 → MS → Prop} (hp : p_X12_room x1 (absM a0 arr σ) P) {Q : Int32 → St → Prop} (hq : ∀ (r : Int32) (s : St), RF a0 arr s → P r (absM a0 arr s) → Q r s) : w_X12_room a0 x1 σ Q := by
  unfold p_X12_room at hp
  unfold w_X12_room
  refine q_X12_isSlot hR hp (fun x51 s52 hR hp => ?_)
  refine ⟨fun c => ?_, fun c => ?_⟩
  · replace hp := hp.1 c
    exact q_X12_room_13 hq _ _ _ hR hp
  · replace hp := hp.2 c
    exact q_X12_room_13 hq _ _ _ hR hp
set_option maxRecDepth 100000 in
set_option maxHeartbeats 1000000 in
theorem q_X12_slot_63 {a0 : Nat} {arr : Nat → Nat} {P : MS → Prop} {Q : St → Prop} (hq : ∀ (s : St), RF a0 arr s → P (absM a0 arr s) → Q s) : ∀ (x1 : Int32) (x2 : Int32) (x3 : Int32) (xs1 : Int32) (σ : St), RF a0 arr σ → p_X12_slot_63 P  x1 x2 x3 xs1 (absM a0 arr σ) → w_X12_slot_63 Q  a0 x1 x2 x3 a0 xs1 σ := by
  intro x1 x2 x3 xs1 σ hR hp
  unfold p_X12_slot_63 at hp
  unfold w_X12_slot_63
  refine q_X12_holds hR hp (fun x57 s58 hR hp => ?_)
  refine ⟨fun c => ?_, fun c => ?_⟩
  · replace hp := hp.1 c
    exact hq _ hR hp
  · replace hp := hp.2 c
    intro o60 ho60
    rw [hR.ref 4 (by first | decide | assumption)] at ho60
    subst ho60
    refine ⟨arr 4, rfl, ?_⟩
    refine ⟨by rw [hR.len 4 (by first | decide | assumption)]; exact hp.1, ?_⟩
    replace hp := hp.2
    intro s63 hs63
    have h2 := abs_setA hR 4 (by first | decide | assumption) hs63
    replace hR := hR.setA hs63
    replace hp := hp _ h2
    clear h2 hs63
    intro o64 ho64
    rw [hR.ref 5 (by first | decide | assumption)] at ho64
    subst ho64
    refine ⟨arr 5, rfl, ?_⟩
    refine ⟨by rw [hR.len 5 (by first | decide | assumption)]; exact hp.1, ?_⟩
    replace hp := hp.2
    intro s67 hs67
    have h2 := abs_setA hR 5 (by first | decide | assumption) hs67
    replace hR := hR.setA hs67
    replace hp := hp _ h2
    clear h2 hs67
    exact hq _ hR hp
set_option maxRecDepth 100000 in
set_option maxHeartbeats 1000000 in
theorem q_X12_slot {a0 : Nat} {arr : Nat → Nat} {σ : St} {x1 : Int32} {x2 : Int32} {x3 : Int32} (hR : RF a0 arr σ) {P : MS → Prop} (hp : p_X12_slot x1 x2 x3 (absM a0 arr σ) P) {Q : St → Prop} (hq : ∀ (s : St), RF a0 arr s → P (absM a0 arr s) → Q s) : w_X12_slot a0 x1 x2 x3 σ Q := by
  unfold p_X12_slot at hp
  unfold w_X12_slot
  refine q_X12_isSlot hR hp (fun x51 s52 hR hp => ?_)
  refine ⟨fun c => ?_, fun c => ?_⟩
  · replace hp := hp.1 c
    refine q_X12_isIn hR hp (fun x54 s55 hR hp => ?_)
    refine ⟨fun c => ?_, fun c => ?_⟩
    · replace hp := hp.1 c
      exact q_X12_slot_63 hq _ _ _ _ _ hR hp
    · replace hp := hp.2 c
      refine q_X12_isIn hR hp (fun x68 s69 hR hp => ?_)
      refine ⟨fun c => ?_, fun c => ?_⟩
      · replace hp := hp.1 c
        refine q_X12_isEmpty hR hp (fun x71 s72 hR hp => ?_)
        refine ⟨fun c => ?_, fun c => ?_⟩
        · replace hp := hp.1 c
          exact q_X12_slot_63 hq _ _ _ _ _ hR hp
        · replace hp := hp.2 c
          intro o74 ho74
          rw [hR.ref 6 (by first | decide | assumption)] at ho74
          subst ho74
          refine ⟨arr 6, rfl, ?_⟩
          refine ⟨by rw [hR.len 6 (by first | decide | assumption)]; exact hp.1, ?_⟩
          replace hp := hp.2
          refine ⟨fun c => ?_, fun c => ?_⟩
          · replace hp := hp.1 c
            exact q_X12_slot_63 hq _ _ _ _ _ hR hp
          · replace hp := hp.2 c
            exact q_X12_slot_63 hq _ _ _ _ _ hR hp
      · replace hp := hp.2 c
        exact q_X12_slot_63 hq _ _ _ _ _ hR hp
  · replace hp := hp.2 c
    exact q_X12_slot_63 hq _ _ _ _ _ hR hp
set_option maxRecDepth 100000 in
set_option maxHeartbeats 1000000 in
theorem q_X12_stock {a0 : Nat} {arr : Nat → Nat} {σ : St} {x1 : Int32} {x2 : Int32} (hR : RF a0 arr σ) {P : Int32 → MS → Prop} (hp : p_X12_stock x1 x2 (absM a0 arr σ) P) {Q : Int32 → St → Prop} (hq : ∀ (r : Int32) (s : St), RF a0 arr s → P r (absM a0 arr s) → Q r s) : w_X12_stock a0 x1 x2 σ Q := by
  unfold p_X12_stock at hp
  unfold w_X12_stock
  refine q_X12_isAsked hR hp (fun x51 s52 hR hp => ?_)
  refine ⟨fun c => ?_, fun c => ?_⟩
  · replace hp := hp.1 c
    exact hq _ _ hR hp
  · replace hp := hp.2 c
    intro o54 ho54
    rw [hR.ref 19 (by first | decide | assumption)] at ho54
    subst ho54
    refine ⟨arr 19, rfl, ?_⟩
    refine ⟨by rw [hR.len 19 (by first | decide | assumption)]; exact hp.1, ?_⟩
    replace hp := hp.2
    exact hq _ _ hR hp
set_option maxRecDepth 100000 in
set_option maxHeartbeats 1000000 in
theorem q_X12_stockAnew {a0 : Nat} {arr : Nat → Nat} {σ : St} {x1 : Int32} {x2 : Int32} (hR : RF a0 arr σ) {P : Int32 → MS → Prop} (hp : p_X12_stockAnew x1 x2 (absM a0 arr σ) P) {Q : Int32 → St → Prop} (hq : ∀ (r : Int32) (s : St), RF a0 arr s → P r (absM a0 arr s) → Q r s) : w_X12_stockAnew a0 x1 x2 σ Q := by
  unfold p_X12_stockAnew at hp
  unfold w_X12_stockAnew
  refine q_X12_isAsked hR hp (fun x51 s52 hR hp => ?_)
  refine ⟨fun c => ?_, fun c => ?_⟩
  · replace hp := hp.1 c
    exact hq _ _ hR hp
  · replace hp := hp.2 c
    intro o54 ho54
    rw [hR.ref 19 (by first | decide | assumption)] at ho54
    subst ho54
    refine ⟨arr 19, rfl, ?_⟩
    refine ⟨by rw [hR.len 19 (by first | decide | assumption)]; exact hp.1, ?_⟩
    replace hp := hp.2
    exact hq _ _ hR hp
set_option maxRecDepth 100000 in
set_option maxHeartbeats 1000000 in
theorem q_X12_allocates_13 {a0 : Nat} {arr : Nat → Nat} {P : Int32 → MS → Prop} {Q : Int32 → St → Prop} (hq : ∀ (r : Int32) (s : St), RF a0 arr s → P r (absM a0 arr s) → Q r s) : ∀ (f : Nat) (x1 : Int32) (x2 : Int32) (x3 : Int32) (x4 : Int32) (x5 : Int32) (σ : St), RF a0 arr σ → p_X12_allocates_13 P  f x1 x2 x3 x4 x5 (absM a0 arr σ) → w_X12_allocates_13 Q  f a0 x1 x2 x3 x4 x5 σ := by
  intro f
  induction f with
  | zero => intro x1 x2 x3 x4 x5 σ hR hp; exact hp.elim
  | succ f ih =>
    intro x1 x2 x3 x4 x5 σ hR hp
    unfold p_X12_allocates_13 at hp
    unfold w_X12_allocates_13
    intro o52 ho52
    rw [hR.ref 31 (by first | decide | assumption)] at ho52
    subst ho52
    refine ⟨arr 31, rfl, ?_⟩
    refine ⟨by rw [hR.len 31 (by first | decide | assumption)]; exact hp.1, ?_⟩
    replace hp := hp.2
    refine ⟨fun c => ?_, fun c => ?_⟩
    · replace hp := hp.1 c
      intro o56 ho56
      rw [hR.ref 29 (by first | decide | assumption)] at ho56
      subst ho56
      refine ⟨arr 29, rfl, ?_⟩
      refine ⟨by rw [hR.len 29 (by first | decide | assumption)]; exact hp.1, ?_⟩
      replace hp := hp.2
      refine ⟨fun c => ?_, fun c => ?_⟩
      · replace hp := hp.1 c
        exact hq _ _ hR hp
      · replace hp := hp.2 c
        refine ⟨fun c => ?_, fun c => ?_⟩
        · replace hp := hp.1 c
          exact hq _ _ hR hp
        · replace hp := hp.2 c
          intro s61 hs61
          have h2 := abs_setI (arr := arr) 39 (by first | decide | assumption) hs61
          replace hR := hR.setI hs61
          replace hp := hp _ h2
          clear h2 hs61
          exact hq _ _ hR hp
    · replace hp := hp.2 c
      refine q_X12_holdsFor hR hp (fun x62 s63 hR hp => ?_)
      intro x64 hx64
      replace hp := hp x64 hx64
      refine ⟨fun c => ?_, fun c => ?_⟩
      · replace hp := hp.1 c
        exact ih _ _ _ _ _ _ hR hp
      · replace hp := hp.2 c
        refine q_X12_lacking hR hp (fun x66 s67 hR hp => ?_)
        refine ⟨fun c => ?_, fun c => ?_⟩
        · replace hp := hp.1 c
          exact ih _ _ _ _ _ _ hR hp
        · replace hp := hp.2 c
          exact ih _ _ _ _ _ _ hR hp
set_option maxRecDepth 100000 in
set_option maxHeartbeats 1000000 in
theorem q_X12_allocates {a0 : Nat} {arr : Nat → Nat} {σ : St} {x1 : Int32} (hR : RF a0 arr σ) {P : Int32 → MS → Prop} (hp : p_X12_allocates x1 (absM a0 arr σ) P) {Q : Int32 → St → Prop} (hq : ∀ (r : Int32) (s : St), RF a0 arr s → P r (absM a0 arr s) → Q r s) : w_X12_allocates a0 x1 σ Q := by
  unfold p_X12_allocates at hp
  unfold w_X12_allocates
  intro x51 hx51
  replace hp := hp x51 hx51
  obtain ⟨f69, hp⟩ := hp
  refine ⟨f69, ?_⟩
  exact q_X12_allocates_13 hq f69 _ _ _ _ _ _ hR hp
set_option maxRecDepth 100000 in
set_option maxHeartbeats 1000000 in
theorem q_X12_goesTo_65 {a0 : Nat} {arr : Nat → Nat} {P : MS → Prop} {Q : St → Prop} (hq : ∀ (s : St), RF a0 arr s → P (absM a0 arr s) → Q s) : ∀ (os0 : Nat) (xs1 : Int32) (xs2 : Int32) (xs3 : Int32) (σ : St), RF a0 arr σ → p_X12_goesTo_65 P  os0 xs1 xs2 xs3 (absM a0 arr σ) → w_X12_goesTo_65 Q  (some (arr os0)) xs1 xs2 xs3 σ := by
  intro os0 xs1 xs2 xs3 σ hR hp
  unfold p_X12_goesTo_65 at hp
  unfold w_X12_goesTo_65
  obtain ⟨hAos0, hp⟩ := hp
  refine ⟨arr os0, rfl, ?_⟩
  refine ⟨by rw [hR.len os0 (by first | decide | assumption)]; exact hp.1, ?_⟩
  replace hp := hp.2
  intro s85 hs85
  have h2 := abs_setA hR os0 (by first | decide | assumption) hs85
  replace hR := hR.setA hs85
  replace hp := hp _ h2
  clear h2 hs85
  exact hq _ hR hp
set_option maxRecDepth 100000 in
set_option maxHeartbeats 1000000 in
theorem q_X12_goesTo {a0 : Nat} {arr : Nat → Nat} {σ : St} {x1 : Int32} {x2 : Int32} {x3 : Int32} (hR : RF a0 arr σ) {P : MS → Prop} (hp : p_X12_goesTo x1 x2 x3 (absM a0 arr σ) P) {Q : St → Prop} (hq : ∀ (s : St), RF a0 arr s → P (absM a0 arr s) → Q s) : w_X12_goesTo a0 x1 x2 x3 σ Q := by
  unfold p_X12_goesTo at hp
  unfold w_X12_goesTo
  intro x51 hx51
  replace hp := hp x51 hx51
  intro x52 hx52
  replace hp := hp x52 hx52
  intro o53 ho53
  rw [hR.ref 55 (by first | decide | assumption)] at ho53
  subst ho53
  refine ⟨arr 55, rfl, ?_⟩
  refine ⟨by rw [hR.len 55 (by first | decide | assumption)]; exact hp.1, ?_⟩
  replace hp := hp.2
  refine ⟨fun c => ?_, fun c => ?_⟩
  · replace hp := hp.1 c
    refine q_X12_isHeldByOther hR hp (fun x57 s58 hR hp => ?_)
    refine ⟨fun c => ?_, fun c => ?_⟩
    · replace hp := hp.1 c
      intro o60 ho60
      rw [hR.ref 55 (by first | decide | assumption)] at ho60
      subst ho60
      refine ⟨arr 55, rfl, ?_⟩
      refine ⟨by rw [hR.len 55 (by first | decide | assumption)]; exact hp.1, ?_⟩
      replace hp := hp.2
      intro s63 hs63
      have h2 := abs_setA hR 55 (by first | decide | assumption) hs63
      replace hR := hR.setA hs63
      replace hp := hp _ h2
      clear h2 hs63
      intro o64 ho64
      rw [hR.ref 56 (by first | decide | assumption)] at ho64
      subst ho64
      refine ⟨arr 56, rfl, ?_⟩
      refine ⟨by rw [hR.len 56 (by first | decide | assumption)]; exact hp.1, ?_⟩
      replace hp := hp.2
      intro s67 hs67
      have h2 := abs_setA hR 56 (by first | decide | assumption) hs67
      replace hR := hR.setA hs67
      replace hp := hp _ h2
      clear h2 hs67
      exact hq _ hR hp
    · replace hp := hp.2 c
      intro o68 ho68
      rw [hR.ref 57 (by first | decide | assumption)] at ho68
      subst ho68
      refine ⟨arr 57, rfl, ?_⟩
      refine ⟨by rw [hR.len 57 (by first | decide | assumption)]; exact hp.1, ?_⟩
      replace hp := hp.2
      intro s71 hs71
      have h2 := abs_setA hR 57 (by first | decide | assumption) hs71
      replace hR := hR.setA hs71
      replace hp := hp _ h2
      clear h2 hs71
      exact hq _ hR hp
  · replace hp := hp.2 c
    intro o72 ho72
    rw [hR.ref 56 (by first | decide | assumption)] at ho72
    subst ho72
    refine ⟨arr 56, rfl, ?_⟩
    refine ⟨by rw [hR.len 56 (by first | decide | assumption)]; exact hp.1, ?_⟩
    replace hp := hp.2
    refine ⟨fun c => ?_, fun c => ?_⟩
    · replace hp := hp.1 c
      intro o76 ho76
      rw [hR.ref 56 (by first | decide | assumption)] at ho76
      subst ho76
      refine ⟨arr 56, rfl, ?_⟩
      refine ⟨by rw [hR.len 56 (by first | decide | assumption)]; exact hp.1, ?_⟩
      replace hp := hp.2
      intro o79 ho79
      rw [hR.ref 56 (by first | decide | assumption)] at ho79
      subst ho79
      refine ⟨arr 56, rfl, ?_⟩
      refine ⟨by rw [hR.len 56 (by first | decide | assumption)]; exact hp.1, ?_⟩
      replace hp := hp.2
      refine ⟨fun c => ?_, fun c => ?_⟩
      · replace hp := hp.1 c
        exact q_X12_goesTo_65 hq _ _ _ _ _ hR hp
      · replace hp := hp.2 c
        exact q_X12_goesTo_65 hq _ _ _ _ _ hR hp
    · replace hp := hp.2 c
      refine q_X12_does hR hp (fun s87 hR hp => ?_)
      exact hq _ hR hp
set_option maxRecDepth 100000 in
set_option maxHeartbeats 1000000 in
theorem q_X12_refill_9 {a0 : Nat} {arr : Nat → Nat} {P : Int32 → MS → Prop} {Q : Int32 → St → Prop} (hq : ∀ (r : Int32) (s : St), RF a0 arr s → P r (absM a0 arr s) → Q r s) : ∀ (f : Nat) (x1 : Int32) (x2 : Int32) (σ : St), RF a0 arr σ → p_X12_refill_9 P  f x1 x2 (absM a0 arr σ) → w_X12_refill_9 Q  f a0 x1 x2 σ := by
  intro f
  induction f with
  | zero => intro x1 x2 σ hR hp; exact hp.elim
  | succ f ih =>
    intro x1 x2 σ hR hp
    unfold p_X12_refill_9 at hp
    unfold w_X12_refill_9
    refine ⟨fun c => ?_, fun c => ?_⟩
    · replace hp := hp.1 c
      exact hq _ _ hR hp
    · replace hp := hp.2 c
      intro o53 ho53
      rw [hR.ref 6 (by first | decide | assumption)] at ho53
      subst ho53
      refine ⟨arr 6, rfl, ?_⟩
      refine ⟨by rw [hR.len 6 (by first | decide | assumption)]; exact hp.1, ?_⟩
      replace hp := hp.2
      refine ⟨fun c => ?_, fun c => ?_⟩
      · replace hp := hp.1 c
        intro x57 hx57
        replace hp := hp x57 hx57
        exact ih _ _ _ hR hp
      · replace hp := hp.2 c
        refine q_X12_refills hR hp (fun x58 s59 hR hp => ?_)
        refine ⟨fun c => ?_, fun c => ?_⟩
        · replace hp := hp.1 c
          intro x61 hx61
          replace hp := hp x61 hx61
          exact ih _ _ _ hR hp
        · replace hp := hp.2 c
          intro x62 hx62
          replace hp := hp x62 hx62
          exact ih _ _ _ hR hp
set_option maxRecDepth 100000 in
set_option maxHeartbeats 1000000 in
theorem q_X12_refill {a0 : Nat} {arr : Nat → Nat} {σ : St}  (hR : RF a0 arr σ) {P : Int32 → MS → Prop} (hp : p_X12_refill  (absM a0 arr σ) P) {Q : Int32 → St → Prop} (hq : ∀ (r : Int32) (s : St), RF a0 arr s → P r (absM a0 arr s) → Q r s) : w_X12_refill a0 σ Q := by
  unfold p_X12_refill at hp
  unfold w_X12_refill
  intro s51 hs51
  have h2 := abs_setI (arr := arr) 0 (by first | decide | assumption) hs51
  replace hR := hR.setI hs51
  replace hp := hp _ h2
  clear h2 hs51
  obtain ⟨f63, hp⟩ := hp
  refine ⟨f63, ?_⟩
  exact q_X12_refill_9 hq f63 _ _ _ hR hp
set_option maxRecDepth 100000 in
set_option maxHeartbeats 1000000 in
theorem q_X12_slotFor_162 {a0 : Nat} {arr : Nat → Nat} {P : Int32 → MS → Prop} {Q : Int32 → St → Prop} (hq : ∀ (r : Int32) (s : St), RF a0 arr s → P r (absM a0 arr s) → Q r s) {K16 : Nat → Int32 → Int32 → Int32 → Int32 → Int32 → Int32 → St → Prop} {LK16 : Int32 → Int32 → Int32 → Int32 → Int32 → Int32 → MS → Prop} (hK16 : ∀ (y1 : Int32) (y2 : Int32) (y3 : Int32) (y4 : Int32) (y5 : Int32) (y6 : Int32) (y7 : St), RF a0 arr y7 → LK16 y1 y2 y3 y4 y5 y6 (absM a0 arr y7) → K16 a0 y1 y2 y3 y4 y5 y6 y7) : ∀ (x1 : Int32) (x2 : Int32) (x4 : Int32) (x5 : Int32) (x6 : Int32) (x10 : Int32) (xs0 : Int32) (σ : St), RF a0 arr σ → p_X12_slotFor_162 P LK16 x1 x2 x4 x5 x6 x10 xs0 (absM a0 arr σ) → w_X12_slotFor_162 Q K16 a0 x1 x2 x4 x5 x6 x10 xs0 σ := by
  intro x1 x2 x4 x5 x6 x10 xs0 σ hR hp
  unfold p_X12_slotFor_162 at hp
  unfold w_X12_slotFor_162
  refine ⟨fun c => ?_, fun c => ?_⟩
  · replace hp := hp.1 c
    exact hK16 _ _ _ _ _ _ _ hR hp
  · replace hp := hp.2 c
    exact hK16 _ _ _ _ _ _ _ hR hp
set_option maxRecDepth 100000 in
set_option maxHeartbeats 1000000 in
theorem q_X12_slotFor_161 {a0 : Nat} {arr : Nat → Nat} {P : Int32 → MS → Prop} {Q : Int32 → St → Prop} (hq : ∀ (r : Int32) (s : St), RF a0 arr s → P r (absM a0 arr s) → Q r s) {K16 : Nat → Int32 → Int32 → Int32 → Int32 → Int32 → Int32 → St → Prop} {LK16 : Int32 → Int32 → Int32 → Int32 → Int32 → Int32 → MS → Prop} (hK16 : ∀ (y1 : Int32) (y2 : Int32) (y3 : Int32) (y4 : Int32) (y5 : Int32) (y6 : Int32) (y7 : St), RF a0 arr y7 → LK16 y1 y2 y3 y4 y5 y6 (absM a0 arr y7) → K16 a0 y1 y2 y3 y4 y5 y6 y7) : ∀ (x1 : Int32) (x2 : Int32) (x3 : Int32) (x4 : Int32) (x5 : Int32) (x6 : Int32) (x10 : Int32) (σ : St), RF a0 arr σ → p_X12_slotFor_161 P LK16 x1 x2 x3 x4 x5 x6 x10 (absM a0 arr σ) → w_X12_slotFor_161 Q K16 a0 x1 x2 x3 x4 x5 x6 x10 σ := by
  intro x1 x2 x3 x4 x5 x6 x10 σ hR hp
  unfold p_X12_slotFor_161 at hp
  unfold w_X12_slotFor_161
  exact q_X12_slotFor_162 hq hK16 _ _ _ _ _ _ _ _ hR hp
set_option maxRecDepth 100000 in
set_option maxHeartbeats 1000000 in
theorem q_X12_slotFor_126 {a0 : Nat} {arr : Nat → Nat} {P : Int32 → MS → Prop} {Q : Int32 → St → Prop} (hq : ∀ (r : Int32) (s : St), RF a0 arr s → P r (absM a0 arr s) → Q r s) {K16 : Nat → Int32 → Int32 → Int32 → Int32 → Int32 → Int32 → St → Prop} {LK16 : Int32 → Int32 → Int32 → Int32 → Int32 → Int32 → MS → Prop} (hK16 : ∀ (y1 : Int32) (y2 : Int32) (y3 : Int32) (y4 : Int32) (y5 : Int32) (y6 : Int32) (y7 : St), RF a0 arr y7 → LK16 y1 y2 y3 y4 y5 y6 (absM a0 arr y7) → K16 a0 y1 y2 y3 y4 y5 y6 y7) : ∀ (x1 : Int32) (x2 : Int32) (x3 : Int32) (x4 : Int32) (x5 : Int32) (x6 : Int32) (x7 : Int32) (x8 : Int32) (xs0 : Int32) (σ : St), RF a0 arr σ → p_X12_slotFor_126 P LK16 x1 x2 x3 x4 x5 x6 x7 x8 xs0 (absM a0 arr σ) → w_X12_slotFor_126 Q K16 a0 x1 x2 x3 x4 x5 x6 x7 x8 xs0 σ := by
  intro x1 x2 x3 x4 x5 x6 x7 x8 xs0 σ hR hp
  unfold p_X12_slotFor_126 at hp
  unfold w_X12_slotFor_126
  intro x69 hx69
  replace hp := hp x69 hx69
  refine ⟨fun c => ?_, fun c => ?_⟩
  · replace hp := hp.1 c
    exact q_X12_slotFor_161 hq hK16 _ _ _ _ _ _ _ _ hR hp
  · replace hp := hp.2 c
    refine ⟨fun c => ?_, fun c => ?_⟩
    · replace hp := hp.1 c
      exact q_X12_slotFor_162 hq hK16 _ _ _ _ _ _ _ _ hR hp
    · replace hp := hp.2 c
      refine ⟨fun c => ?_, fun c => ?_⟩
      · replace hp := hp.1 c
        exact q_X12_slotFor_161 hq hK16 _ _ _ _ _ _ _ _ hR hp
      · replace hp := hp.2 c
        exact q_X12_slotFor_162 hq hK16 _ _ _ _ _ _ _ _ hR hp
set_option maxRecDepth 100000 in
set_option maxHeartbeats 1000000 in
theorem q_X12_slotFor_89 {a0 : Nat} {arr : Nat → Nat} {P : Int32 → MS → Prop} {Q : Int32 → St → Prop} (hq : ∀ (r : Int32) (s : St), RF a0 arr s → P r (absM a0 arr s) → Q r s) {K16 : Nat → Int32 → Int32 → Int32 → Int32 → Int32 → Int32 → St → Prop} {LK16 : Int32 → Int32 → Int32 → Int32 → Int32 → Int32 → MS → Prop} (hK16 : ∀ (y1 : Int32) (y2 : Int32) (y3 : Int32) (y4 : Int32) (y5 : Int32) (y6 : Int32) (y7 : St), RF a0 arr y7 → LK16 y1 y2 y3 y4 y5 y6 (absM a0 arr y7) → K16 a0 y1 y2 y3 y4 y5 y6 y7) : ∀ (x1 : Int32) (x2 : Int32) (x3 : Int32) (x4 : Int32) (x5 : Int32) (x6 : Int32) (x7 : Int32) (xs0 : Int32) (σ : St), RF a0 arr σ → p_X12_slotFor_89 P LK16 x1 x2 x3 x4 x5 x6 x7 xs0 (absM a0 arr σ) → w_X12_slotFor_89 Q K16 a0 x1 x2 x3 x4 x5 x6 x7 xs0 σ := by
  intro x1 x2 x3 x4 x5 x6 x7 xs0 σ hR hp
  unfold p_X12_slotFor_89 at hp
  unfold w_X12_slotFor_89
  intro o62 ho62
  rw [hR.ref 19 (by first | decide | assumption)] at ho62
  subst ho62
  refine ⟨arr 19, rfl, ?_⟩
  refine ⟨by rw [hR.len 19 (by first | decide | assumption)]; exact hp.1, ?_⟩
  replace hp := hp.2
  refine ⟨fun c => ?_, fun c => ?_⟩
  · replace hp := hp.1 c
    refine q_X12_itemIn hR hp (fun x66 s67 hR hp => ?_)
    refine ⟨fun c => ?_, fun c => ?_⟩
    · replace hp := hp.1 c
      exact q_X12_slotFor_126 hq hK16 _ _ _ _ _ _ _ _ _ _ hR hp
    · replace hp := hp.2 c
      exact q_X12_slotFor_126 hq hK16 _ _ _ _ _ _ _ _ _ _ hR hp
  · replace hp := hp.2 c
    exact q_X12_slotFor_126 hq hK16 _ _ _ _ _ _ _ _ _ _ hR hp
set_option maxRecDepth 100000 in
set_option maxHeartbeats 1000000 in
theorem q_X12_slotFor_88 {a0 : Nat} {arr : Nat → Nat} {P : Int32 → MS → Prop} {Q : Int32 → St → Prop} (hq : ∀ (r : Int32) (s : St), RF a0 arr s → P r (absM a0 arr s) → Q r s) {K16 : Nat → Int32 → Int32 → Int32 → Int32 → Int32 → Int32 → St → Prop} {LK16 : Int32 → Int32 → Int32 → Int32 → Int32 → Int32 → MS → Prop} (hK16 : ∀ (y1 : Int32) (y2 : Int32) (y3 : Int32) (y4 : Int32) (y5 : Int32) (y6 : Int32) (y7 : St), RF a0 arr y7 → LK16 y1 y2 y3 y4 y5 y6 (absM a0 arr y7) → K16 a0 y1 y2 y3 y4 y5 y6 y7) : ∀ (x1 : Int32) (x2 : Int32) (x3 : Int32) (x4 : Int32) (x5 : Int32) (x6 : Int32) (x7 : Int32) (σ : St), RF a0 arr σ → p_X12_slotFor_88 P LK16 x1 x2 x3 x4 x5 x6 x7 (absM a0 arr σ) → w_X12_slotFor_88 Q K16 a0 x1 x2 x3 x4 x5 x6 x7 σ := by
  intro x1 x2 x3 x4 x5 x6 x7 σ hR hp
  unfold p_X12_slotFor_88 at hp
  unfold w_X12_slotFor_88
  exact q_X12_slotFor_89 hq hK16 _ _ _ _ _ _ _ _ _ hR hp
set_option maxRecDepth 100000 in
set_option maxHeartbeats 1000000 in
theorem q_X12_slotFor_16 {a0 : Nat} {arr : Nat → Nat} {P : Int32 → MS → Prop} {Q : Int32 → St → Prop} (hq : ∀ (r : Int32) (s : St), RF a0 arr s → P r (absM a0 arr s) → Q r s) : ∀ (f : Nat) (x1 : Int32) (x2 : Int32) (x3 : Int32) (x4 : Int32) (x5 : Int32) (x6 : Int32) (σ : St), RF a0 arr σ → p_X12_slotFor_16 P  f x1 x2 x3 x4 x5 x6 (absM a0 arr σ) → w_X12_slotFor_16 Q  f a0 x1 x2 x3 x4 x5 x6 σ := by
  intro f
  induction f with
  | zero => intro x1 x2 x3 x4 x5 x6 σ hR hp; exact hp.elim
  | succ f ih =>
    intro x1 x2 x3 x4 x5 x6 σ hR hp
    unfold p_X12_slotFor_16 at hp
    unfold w_X12_slotFor_16
    refine ⟨fun c => ?_, fun c => ?_⟩
    · replace hp := hp.1 c
      exact hq _ _ hR hp
    · replace hp := hp.2 c
      refine q_X12_roomLeft hR hp (fun x56 s57 hR hp => ?_)
      intro o58 ho58
      rw [hR.ref 6 (by first | decide | assumption)] at ho58
      subst ho58
      refine ⟨arr 6, rfl, ?_⟩
      refine ⟨by rw [hR.len 6 (by first | decide | assumption)]; exact hp.1, ?_⟩
      replace hp := hp.2
      refine ⟨fun c => ?_, fun c => ?_⟩
      · replace hp := hp.1 c
        exact q_X12_slotFor_88 hq ih _ _ _ _ _ _ _ _ hR hp
      · replace hp := hp.2 c
        intro o74 ho74
        rw [hR.ref 4 (by first | decide | assumption)] at ho74
        subst ho74
        refine ⟨arr 4, rfl, ?_⟩
        refine ⟨by rw [hR.len 4 (by first | decide | assumption)]; exact hp.1, ?_⟩
        replace hp := hp.2
        intro o77 ho77
        rw [hR.ref 9 (by first | decide | assumption)] at ho77
        subst ho77
        refine ⟨arr 9, rfl, ?_⟩
        refine ⟨by rw [hR.len 9 (by first | decide | assumption)]; exact hp.1, ?_⟩
        replace hp := hp.2
        refine ⟨fun c => ?_, fun c => ?_⟩
        · replace hp := hp.1 c
          exact q_X12_slotFor_88 hq ih _ _ _ _ _ _ _ _ hR hp
        · replace hp := hp.2 c
          intro o81 ho81
          rw [hR.ref 10 (by first | decide | assumption)] at ho81
          subst ho81
          refine ⟨arr 10, rfl, ?_⟩
          refine ⟨by rw [hR.len 10 (by first | decide | assumption)]; exact hp.1, ?_⟩
          replace hp := hp.2
          refine ⟨fun c => ?_, fun c => ?_⟩
          · replace hp := hp.1 c
            exact q_X12_slotFor_88 hq ih _ _ _ _ _ _ _ _ hR hp
          · replace hp := hp.2 c
            refine q_X12_isBarredAt hR hp (fun x85 s86 hR hp => ?_)
            refine ⟨fun c => ?_, fun c => ?_⟩
            · replace hp := hp.1 c
              exact q_X12_slotFor_88 hq ih _ _ _ _ _ _ _ _ hR hp
            · replace hp := hp.2 c
              exact q_X12_slotFor_89 hq ih _ _ _ _ _ _ _ _ _ hR hp
set_option maxRecDepth 100000 in
set_option maxHeartbeats 1000000 in
theorem q_X12_slotFor {a0 : Nat} {arr : Nat → Nat} {σ : St} {x1 : Int32} {x2 : Int32} (hR : RF a0 arr σ) {P : Int32 → MS → Prop} (hp : p_X12_slotFor x1 x2 (absM a0 arr σ) P) {Q : Int32 → St → Prop} (hq : ∀ (r : Int32) (s : St), RF a0 arr s → P r (absM a0 arr s) → Q r s) : w_X12_slotFor a0 x1 x2 σ Q := by
  unfold p_X12_slotFor at hp
  unfold w_X12_slotFor
  intro o51 ho51
  rw [hR.ref 16 (by first | decide | assumption)] at ho51
  subst ho51
  refine ⟨arr 16, rfl, ?_⟩
  refine ⟨by rw [hR.len 16 (by first | decide | assumption)]; exact hp.1, ?_⟩
  replace hp := hp.2
  intro x54 hx54
  replace hp := hp x54 hx54
  obtain ⟨f88, hp⟩ := hp
  refine ⟨f88, ?_⟩
  exact q_X12_slotFor_16 hq f88 _ _ _ _ _ _ _ hR hp
set_option maxRecDepth 100000 in
set_option maxHeartbeats 1000000 in
theorem q_X12_allocate_16 {a0 : Nat} {arr : Nat → Nat} {P : Int32 → MS → Prop} {Q : Int32 → St → Prop} (hq : ∀ (r : Int32) (s : St), RF a0 arr s → P r (absM a0 arr s) → Q r s) {K10 : Nat → Int32 → Int32 → St → Prop} {LK10 : Int32 → Int32 → MS → Prop} (hK10 : ∀ (y1 : Int32) (y2 : Int32) (y3 : St), RF a0 arr y3 → LK10 y1 y2 (absM a0 arr y3) → K10 a0 y1 y2 y3) : ∀ (f : Nat) (x1 : Int32) (x2 : Int32) (x3 : Int32) (σ : St), RF a0 arr σ → p_X12_allocate_16 P LK10 f x1 x2 x3 (absM a0 arr σ) → w_X12_allocate_16 Q K10 f a0 x1 x2 x3 σ := by
  intro f
  induction f with
  | zero => intro x1 x2 x3 σ hR hp; exact hp.elim
  | succ f ih =>
    intro x1 x2 x3 σ hR hp
    unfold p_X12_allocate_16 at hp
    unfold w_X12_allocate_16
    refine ⟨fun c => ?_, fun c => ?_⟩
    · replace hp := hp.1 c
      exact hK10 _ _ _ hR hp
    · replace hp := hp.2 c
      intro o54 ho54
      rw [hR.ref 32 (by first | decide | assumption)] at ho54
      subst ho54
      refine ⟨arr 32, rfl, ?_⟩
      refine ⟨by rw [hR.len 32 (by first | decide | assumption)]; exact hp.1, ?_⟩
      replace hp := hp.2
      refine ⟨fun c => ?_, fun c => ?_⟩
      · replace hp := hp.1 c
        intro x58 hx58
        replace hp := hp x58 hx58
        exact ih _ _ _ _ hR hp
      · replace hp := hp.2 c
        intro o59 ho59
        rw [hR.ref 28 (by first | decide | assumption)] at ho59
        subst ho59
        refine ⟨arr 28, rfl, ?_⟩
        refine ⟨by rw [hR.len 28 (by first | decide | assumption)]; exact hp.1, ?_⟩
        replace hp := hp.2
        refine ⟨fun c => ?_, fun c => ?_⟩
        · replace hp := hp.1 c
          intro x63 hx63
          replace hp := hp x63 hx63
          exact ih _ _ _ _ hR hp
        · replace hp := hp.2 c
          refine q_X12_allocates hR hp (fun x64 s65 hR hp => ?_)
          intro x66 hx66
          replace hp := hp x66 hx66
          exact ih _ _ _ _ hR hp
set_option maxRecDepth 100000 in
set_option maxHeartbeats 1000000 in
theorem q_X12_allocate_10 {a0 : Nat} {arr : Nat → Nat} {P : Int32 → MS → Prop} {Q : Int32 → St → Prop} (hq : ∀ (r : Int32) (s : St), RF a0 arr s → P r (absM a0 arr s) → Q r s) : ∀ (f : Nat) (x1 : Int32) (x2 : Int32) (σ : St), RF a0 arr σ → p_X12_allocate_10 P  f x1 x2 (absM a0 arr σ) → w_X12_allocate_10 Q  f a0 x1 x2 σ := by
  intro f
  induction f with
  | zero => intro x1 x2 σ hR hp; exact hp.elim
  | succ f ih =>
    intro x1 x2 σ hR hp
    unfold p_X12_allocate_10 at hp
    unfold w_X12_allocate_10
    refine ⟨fun c => ?_, fun c => ?_⟩
    · replace hp := hp.1 c
      exact hq _ _ hR hp
    · replace hp := hp.2 c
      obtain ⟨f67, hp⟩ := hp
      refine ⟨f67, ?_⟩
      exact q_X12_allocate_16 hq ih f67 _ _ _ _ hR hp
set_option maxRecDepth 100000 in
set_option maxHeartbeats 1000000 in
theorem q_X12_allocate {a0 : Nat} {arr : Nat → Nat} {σ : St}  (hR : RF a0 arr σ) {P : Int32 → MS → Prop} (hp : p_X12_allocate  (absM a0 arr σ) P) {Q : Int32 → St → Prop} (hq : ∀ (r : Int32) (s : St), RF a0 arr s → P r (absM a0 arr s) → Q r s) : w_X12_allocate a0 σ Q := by
  unfold p_X12_allocate at hp
  unfold w_X12_allocate
  intro s51 hs51
  have h2 := abs_setI (arr := arr) 0 (by first | decide | assumption) hs51
  replace hR := hR.setI hs51
  replace hp := hp _ h2
  clear h2 hs51
  obtain ⟨f68, hp⟩ := hp
  refine ⟨f68, ?_⟩
  exact q_X12_allocate_10 hq f68 _ _ _ hR hp
set_option maxRecDepth 100000 in
set_option maxHeartbeats 1000000 in
theorem q_X12_putAway_51 {a0 : Nat} {arr : Nat → Nat} {P : Int32 → MS → Prop} {Q : Int32 → St → Prop} (hq : ∀ (r : Int32) (s : St), RF a0 arr s → P r (absM a0 arr s) → Q r s) : ∀ (x1 : Int32) (x2 : Int32) (xs1 : Int32) (σ : St), RF a0 arr σ → p_X12_putAway_51 P  x1 x2 xs1 (absM a0 arr σ) → w_X12_putAway_51 Q  a0 x1 x2 a0 xs1 σ := by
  intro x1 x2 xs1 σ hR hp
  unfold p_X12_putAway_51 at hp
  unfold w_X12_putAway_51
  refine q_X12_holds hR hp (fun x60 s61 hR hp => ?_)
  refine ⟨fun c => ?_, fun c => ?_⟩
  · replace hp := hp.1 c
    refine q_X12_slotFor hR hp (fun x63 s64 hR hp => ?_)
    refine ⟨fun c => ?_, fun c => ?_⟩
    · replace hp := hp.1 c
      exact hq _ _ hR hp
    · replace hp := hp.2 c
      refine q_X12_makes hR hp (fun x66 s67 hR hp => ?_)
      exact hq _ _ hR hp
  · replace hp := hp.2 c
    exact hq _ _ hR hp
set_option maxRecDepth 100000 in
set_option maxHeartbeats 1000000 in
theorem q_X12_putAway {a0 : Nat} {arr : Nat → Nat} {σ : St} {x1 : Int32} {x2 : Int32} (hR : RF a0 arr σ) {P : Int32 → MS → Prop} (hp : p_X12_putAway x1 x2 (absM a0 arr σ) P) {Q : Int32 → St → Prop} (hq : ∀ (r : Int32) (s : St), RF a0 arr s → P r (absM a0 arr s) → Q r s) : w_X12_putAway a0 x1 x2 σ Q := by
  unfold p_X12_putAway at hp
  unfold w_X12_putAway
  refine q_X12_isLot hR hp (fun x51 s52 hR hp => ?_)
  refine ⟨fun c => ?_, fun c => ?_⟩
  · replace hp := hp.1 c
    refine q_X12_arePieces hR hp (fun x54 s55 hR hp => ?_)
    refine ⟨fun c => ?_, fun c => ?_⟩
    · replace hp := hp.1 c
      refine q_X12_freeAt hR hp (fun x57 s58 hR hp => ?_)
      refine ⟨fun c => ?_, fun c => ?_⟩
      · replace hp := hp.1 c
        exact q_X12_putAway_51 hq _ _ _ _ hR hp
      · replace hp := hp.2 c
        refine ⟨fun c => ?_, fun c => ?_⟩
        · replace hp := hp.1 c
          exact q_X12_putAway_51 hq _ _ _ _ hR hp
        · replace hp := hp.2 c
          exact q_X12_putAway_51 hq _ _ _ _ hR hp
    · replace hp := hp.2 c
      exact q_X12_putAway_51 hq _ _ _ _ hR hp
  · replace hp := hp.2 c
    exact q_X12_putAway_51 hq _ _ _ _ hR hp
set_option maxRecDepth 100000 in
set_option maxHeartbeats 1000000 in
theorem q_X12_turns_153 {a0 : Nat} {arr : Nat → Nat} {P : MS → Prop} {Q : St → Prop} (hq : ∀ (s : St), RF a0 arr s → P (absM a0 arr s) → Q s) : ∀ (xs1 : Int32) (xs2 : Int32) (xs3 : Int32) (σ : St), RF a0 arr σ → p_X12_turns_153 P  xs1 xs2 xs3 (absM a0 arr σ) → w_X12_turns_153 Q  a0 xs1 xs2 xs3 σ := by
  intro xs1 xs2 xs3 σ hR hp
  unfold p_X12_turns_153 at hp
  unfold w_X12_turns_153
  refine q_X12_goesTo hR hp (fun s74 hR hp => ?_)
  exact hq _ hR hp
set_option maxRecDepth 100000 in
set_option maxHeartbeats 1000000 in
theorem q_X12_turns_138 {a0 : Nat} {arr : Nat → Nat} {P : MS → Prop} {Q : St → Prop} (hq : ∀ (s : St), RF a0 arr s → P (absM a0 arr s) → Q s) : ∀ (x2 : Int32) (xs1 : Int32) (xs2 : Int32) (σ : St), RF a0 arr σ → p_X12_turns_138 P  x2 xs1 xs2 (absM a0 arr σ) → w_X12_turns_138 Q  a0 x2 a0 xs1 xs2 σ := by
  intro x2 xs1 xs2 σ hR hp
  unfold p_X12_turns_138 at hp
  unfold w_X12_turns_138
  intro o70 ho70
  rw [hR.ref 48 (by first | decide | assumption)] at ho70
  subst ho70
  refine ⟨arr 48, rfl, ?_⟩
  refine ⟨by rw [hR.len 48 (by first | decide | assumption)]; exact hp.1, ?_⟩
  replace hp := hp.2
  exact q_X12_turns_153 hq _ _ _ _ hR hp
set_option maxRecDepth 100000 in
set_option maxHeartbeats 1000000 in
theorem q_X12_turns_147 {a0 : Nat} {arr : Nat → Nat} {P : MS → Prop} {Q : St → Prop} (hq : ∀ (s : St), RF a0 arr s → P (absM a0 arr s) → Q s) : ∀ (x2 : Int32) (xs1 : Int32) (xs2 : Int32) (σ : St), RF a0 arr σ → p_X12_turns_147 P  x2 xs1 xs2 (absM a0 arr σ) → w_X12_turns_147 Q  a0 x2 a0 xs1 xs2 σ := by
  intro x2 xs1 xs2 σ hR hp
  unfold p_X12_turns_147 at hp
  unfold w_X12_turns_147
  intro o79 ho79
  rw [hR.ref 49 (by first | decide | assumption)] at ho79
  subst ho79
  refine ⟨arr 49, rfl, ?_⟩
  refine ⟨by rw [hR.len 49 (by first | decide | assumption)]; exact hp.1, ?_⟩
  replace hp := hp.2
  exact q_X12_turns_153 hq _ _ _ _ hR hp
set_option maxRecDepth 100000 in
set_option maxHeartbeats 1000000 in
theorem q_X12_turns_102 {a0 : Nat} {arr : Nat → Nat} {P : MS → Prop} {Q : St → Prop} (hq : ∀ (s : St), RF a0 arr s → P (absM a0 arr s) → Q s) : ∀ (x1 : Int32) (x2 : Int32) (x3 : Int32) (σ : St), RF a0 arr σ → p_X12_turns_102 P  x1 x2 x3 (absM a0 arr σ) → w_X12_turns_102 Q  a0 x1 x2 x3 σ := by
  intro x1 x2 x3 σ hR hp
  unfold p_X12_turns_102 at hp
  unfold w_X12_turns_102
  refine ⟨fun c => ?_, fun c => ?_⟩
  · replace hp := hp.1 c
    exact hq _ hR hp
  · replace hp := hp.2 c
    intro o66 ho66
    rw [hR.ref 46 (by first | decide | assumption)] at ho66
    subst ho66
    refine ⟨arr 46, rfl, ?_⟩
    refine ⟨by rw [hR.len 46 (by first | decide | assumption)]; exact hp.1, ?_⟩
    replace hp := hp.2
    refine ⟨fun c => ?_, fun c => ?_⟩
    · replace hp := hp.1 c
      exact q_X12_turns_138 hq _ _ _ _ hR hp
    · replace hp := hp.2 c
      intro o75 ho75
      rw [hR.ref 46 (by first | decide | assumption)] at ho75
      subst ho75
      refine ⟨arr 46, rfl, ?_⟩
      refine ⟨by rw [hR.len 46 (by first | decide | assumption)]; exact hp.1, ?_⟩
      replace hp := hp.2
      refine ⟨fun c => ?_, fun c => ?_⟩
      · replace hp := hp.1 c
        exact q_X12_turns_147 hq _ _ _ _ hR hp
      · replace hp := hp.2 c
        intro o82 ho82
        rw [hR.ref 54 (by first | decide | assumption)] at ho82
        subst ho82
        refine ⟨arr 54, rfl, ?_⟩
        refine ⟨by rw [hR.len 54 (by first | decide | assumption)]; exact hp.1, ?_⟩
        replace hp := hp.2
        refine ⟨fun c => ?_, fun c => ?_⟩
        · replace hp := hp.1 c
          exact q_X12_turns_147 hq _ _ _ _ hR hp
        · replace hp := hp.2 c
          exact q_X12_turns_138 hq _ _ _ _ hR hp
set_option maxRecDepth 100000 in
set_option maxHeartbeats 1000000 in
theorem q_X12_turns_83 {a0 : Nat} {arr : Nat → Nat} {P : MS → Prop} {Q : St → Prop} (hq : ∀ (s : St), RF a0 arr s → P (absM a0 arr s) → Q s) : ∀ (x1 : Int32) (x2 : Int32) (x3 : Int32) (σ : St), RF a0 arr σ → p_X12_turns_83 P  x1 x2 x3 (absM a0 arr σ) → w_X12_turns_83 Q  a0 x1 x2 x3 σ := by
  intro x1 x2 x3 σ hR hp
  unfold p_X12_turns_83 at hp
  unfold w_X12_turns_83
  refine ⟨fun c => ?_, fun c => ?_⟩
  · replace hp := hp.1 c
    exact q_X12_turns_102 hq _ _ _ _ hR hp
  · replace hp := hp.2 c
    refine ⟨fun c => ?_, fun c => ?_⟩
    · replace hp := hp.1 c
      exact q_X12_turns_102 hq _ _ _ _ hR hp
    · replace hp := hp.2 c
      intro o87 ho87
      rw [hR.ref 54 (by first | decide | assumption)] at ho87
      subst ho87
      refine ⟨arr 54, rfl, ?_⟩
      refine ⟨by rw [hR.len 54 (by first | decide | assumption)]; exact hp.1, ?_⟩
      replace hp := hp.2
      intro s90 hs90
      have h2 := abs_setA hR 54 (by first | decide | assumption) hs90
      replace hR := hR.setA hs90
      replace hp := hp _ h2
      clear h2 hs90
      exact hq _ hR hp
set_option maxRecDepth 100000 in
set_option maxHeartbeats 1000000 in
theorem q_X12_turns_58 {a0 : Nat} {arr : Nat → Nat} {P : MS → Prop} {Q : St → Prop} (hq : ∀ (s : St), RF a0 arr s → P (absM a0 arr s) → Q s) : ∀ (x1 : Int32) (x2 : Int32) (xs0 : Int32) (σ : St), RF a0 arr σ → p_X12_turns_58 P  x1 x2 xs0 (absM a0 arr σ) → w_X12_turns_58 Q  a0 x1 x2 xs0 σ := by
  intro x1 x2 xs0 σ hR hp
  unfold p_X12_turns_58 at hp
  unfold w_X12_turns_58
  refine ⟨fun c => ?_, fun c => ?_⟩
  · replace hp := hp.1 c
    exact q_X12_turns_83 hq _ _ _ _ hR hp
  · replace hp := hp.2 c
    intro o91 ho91
    rw [hR.ref 55 (by first | decide | assumption)] at ho91
    subst ho91
    refine ⟨arr 55, rfl, ?_⟩
    refine ⟨by rw [hR.len 55 (by first | decide | assumption)]; exact hp.1, ?_⟩
    replace hp := hp.2
    refine ⟨fun c => ?_, fun c => ?_⟩
    · replace hp := hp.1 c
      exact q_X12_turns_83 hq _ _ _ _ hR hp
    · replace hp := hp.2 c
      intro o95 ho95
      rw [hR.ref 55 (by first | decide | assumption)] at ho95
      subst ho95
      refine ⟨arr 55, rfl, ?_⟩
      refine ⟨by rw [hR.len 55 (by first | decide | assumption)]; exact hp.1, ?_⟩
      replace hp := hp.2
      intro s98 hs98
      have h2 := abs_setA hR 55 (by first | decide | assumption) hs98
      replace hR := hR.setA hs98
      replace hp := hp _ h2
      clear h2 hs98
      exact hq _ hR hp
set_option maxRecDepth 100000 in
set_option maxHeartbeats 1000000 in
theorem q_X12_turns_57 {a0 : Nat} {arr : Nat → Nat} {P : MS → Prop} {Q : St → Prop} (hq : ∀ (s : St), RF a0 arr s → P (absM a0 arr s) → Q s) : ∀ (x1 : Int32) (x2 : Int32) (σ : St), RF a0 arr σ → p_X12_turns_57 P  x1 x2 (absM a0 arr σ) → w_X12_turns_57 Q  a0 x1 x2 σ := by
  intro x1 x2 σ hR hp
  unfold p_X12_turns_57 at hp
  unfold w_X12_turns_57
  exact q_X12_turns_58 hq _ _ _ _ hR hp
set_option maxRecDepth 100000 in
set_option maxHeartbeats 1000000 in
theorem q_X12_turns_29 {a0 : Nat} {arr : Nat → Nat} {P : MS → Prop} {Q : St → Prop} (hq : ∀ (s : St), RF a0 arr s → P (absM a0 arr s) → Q s) : ∀ (x1 : Int32) (xs0 : Int32) (σ : St), RF a0 arr σ → p_X12_turns_29 P  x1 xs0 (absM a0 arr σ) → w_X12_turns_29 Q  a0 x1 xs0 σ := by
  intro x1 xs0 σ hR hp
  unfold p_X12_turns_29 at hp
  unfold w_X12_turns_29
  refine ⟨fun c => ?_, fun c => ?_⟩
  · replace hp := hp.1 c
    exact q_X12_turns_58 hq _ _ _ _ hR hp
  · replace hp := hp.2 c
    intro o99 ho99
    rw [hR.ref 46 (by first | decide | assumption)] at ho99
    subst ho99
    refine ⟨arr 46, rfl, ?_⟩
    refine ⟨by rw [hR.len 46 (by first | decide | assumption)]; exact hp.1, ?_⟩
    replace hp := hp.2
    refine ⟨fun c => ?_, fun c => ?_⟩
    · replace hp := hp.1 c
      exact q_X12_turns_57 hq _ _ _ hR hp
    · replace hp := hp.2 c
      intro o103 ho103
      rw [hR.ref 54 (by first | decide | assumption)] at ho103
      subst ho103
      refine ⟨arr 54, rfl, ?_⟩
      refine ⟨by rw [hR.len 54 (by first | decide | assumption)]; exact hp.1, ?_⟩
      replace hp := hp.2
      refine ⟨fun c => ?_, fun c => ?_⟩
      · replace hp := hp.1 c
        exact q_X12_turns_57 hq _ _ _ hR hp
      · replace hp := hp.2 c
        exact q_X12_turns_58 hq _ _ _ _ hR hp
set_option maxRecDepth 100000 in
set_option maxHeartbeats 1000000 in
theorem q_X12_turns {a0 : Nat} {arr : Nat → Nat} {σ : St} {x1 : Int32} (hR : RF a0 arr σ) {P : MS → Prop} (hp : p_X12_turns x1 (absM a0 arr σ) P) {Q : St → Prop} (hq : ∀ (s : St), RF a0 arr s → P (absM a0 arr s) → Q s) : w_X12_turns a0 x1 σ Q := by
  unfold p_X12_turns at hp
  unfold w_X12_turns
  intro o51 ho51
  rw [hR.ref 57 (by first | decide | assumption)] at ho51
  subst ho51
  refine ⟨arr 57, rfl, ?_⟩
  refine ⟨by rw [hR.len 57 (by first | decide | assumption)]; exact hp.1, ?_⟩
  replace hp := hp.2
  intro s54 hs54
  have h2 := abs_setA hR 57 (by first | decide | assumption) hs54
  replace hR := hR.setA hs54
  replace hp := hp _ h2
  clear h2 hs54
  intro o55 ho55
  rw [hR.ref 59 (by first | decide | assumption)] at ho55
  subst ho55
  refine ⟨arr 59, rfl, ?_⟩
  refine ⟨by rw [hR.len 59 (by first | decide | assumption)]; exact hp.1, ?_⟩
  replace hp := hp.2
  refine ⟨fun c => ?_, fun c => ?_⟩
  · replace hp := hp.1 c
    intro o59 ho59
    rw [hR.ref 58 (by first | decide | assumption)] at ho59
    subst ho59
    refine ⟨arr 58, rfl, ?_⟩
    refine ⟨by rw [hR.len 58 (by first | decide | assumption)]; exact hp.1, ?_⟩
    replace hp := hp.2
    exact q_X12_turns_29 hq _ _ _ hR hp
  · replace hp := hp.2 c
    exact q_X12_turns_29 hq _ _ _ hR hp
set_option maxRecDepth 100000 in
set_option maxHeartbeats 1000000 in
theorem q_X12_ticks_32 {a0 : Nat} {arr : Nat → Nat} {P : MS → Prop} {Q : St → Prop} (hq : ∀ (s : St), RF a0 arr s → P (absM a0 arr s) → Q s) : ∀ (f : Nat) (x1 : Int32) (x2 : Int32) (σ : St), RF a0 arr σ → p_X12_ticks_32 P  f x1 x2 (absM a0 arr σ) → w_X12_ticks_32 Q  f a0 x1 x2 σ := by
  intro f
  induction f with
  | zero => intro x1 x2 σ hR hp; exact hp.elim
  | succ f ih =>
    intro x1 x2 σ hR hp
    unfold p_X12_ticks_32 at hp
    unfold w_X12_ticks_32
    refine ⟨fun c => ?_, fun c => ?_⟩
    · replace hp := hp.1 c
      refine ⟨fun c => ?_, fun c => ?_⟩
      · replace hp := hp.1 c
        exact hq _ hR hp
      · replace hp := hp.2 c
        intro o55 ho55
        rw [hR.ref 55 (by first | decide | assumption)] at ho55
        subst ho55
        refine ⟨arr 55, rfl, ?_⟩
        refine ⟨by rw [hR.len 55 (by first | decide | assumption)]; exact hp.1, ?_⟩
        replace hp := hp.2
        intro s58 hs58
        have h2 := abs_setA hR 55 (by first | decide | assumption) hs58
        replace hR := hR.setA hs58
        replace hp := hp _ h2
        clear h2 hs58
        intro s59 hs59
        have h2 := abs_setI (arr := arr) 3 (by first | decide | assumption) hs59
        replace hR := hR.setI hs59
        replace hp := hp _ h2
        clear h2 hs59
        exact hq _ hR hp
    · replace hp := hp.2 c
      refine q_X12_isInRing hR hp (fun x60 s61 hR hp => ?_)
      refine ⟨fun c => ?_, fun c => ?_⟩
      · replace hp := hp.1 c
        exact ih _ _ _ hR hp
      · replace hp := hp.2 c
        exact ih _ _ _ hR hp
set_option maxRecDepth 100000 in
set_option maxHeartbeats 1000000 in
theorem q_X12_ticks_12 {a0 : Nat} {arr : Nat → Nat} {P : MS → Prop} {Q : St → Prop} (hq : ∀ (s : St), RF a0 arr s → P (absM a0 arr s) → Q s) : ∀ (f : Nat) (x1 : Int32) (σ : St), RF a0 arr σ → p_X12_ticks_12 P  f x1 (absM a0 arr σ) → w_X12_ticks_12 Q  f a0 x1 σ := by
  intro f
  induction f with
  | zero => intro x1 σ hR hp; exact hp.elim
  | succ f ih =>
    intro x1 σ hR hp
    unfold p_X12_ticks_12 at hp
    unfold w_X12_ticks_12
    refine ⟨fun c => ?_, fun c => ?_⟩
    · replace hp := hp.1 c
      obtain ⟨f63, hp⟩ := hp
      refine ⟨f63, ?_⟩
      exact q_X12_ticks_32 hq f63 _ _ _ hR hp
    · replace hp := hp.2 c
      refine q_X12_turns hR hp (fun s65 hR hp => ?_)
      exact ih _ _ hR hp
set_option maxRecDepth 100000 in
set_option maxHeartbeats 1000000 in
theorem q_X12_ticks {a0 : Nat} {arr : Nat → Nat} {σ : St}  (hR : RF a0 arr σ) {P : MS → Prop} (hp : p_X12_ticks  (absM a0 arr σ) P) {Q : St → Prop} (hq : ∀ (s : St), RF a0 arr s → P (absM a0 arr s) → Q s) : w_X12_ticks a0 σ Q := by
  unfold p_X12_ticks at hp
  unfold w_X12_ticks
  intro s51 hs51
  have h2 := abs_setI (arr := arr) 1 (by first | decide | assumption) hs51
  replace hR := hR.setI hs51
  replace hp := hp _ h2
  clear h2 hs51
  obtain ⟨f66, hp⟩ := hp
  refine ⟨f66, ?_⟩
  exact q_X12_ticks_12 hq f66 _ _ hR hp
set_option maxRecDepth 100000 in
set_option maxHeartbeats 1000000 in
theorem q_X12_pass_26 {a0 : Nat} {arr : Nat → Nat} {P : Int32 → MS → Prop} {Q : Int32 → St → Prop} (hq : ∀ (r : Int32) (s : St), RF a0 arr s → P r (absM a0 arr s) → Q r s) : ∀ (f : Nat) (x1 : Int32) (x2 : Int32) (σ : St), RF a0 arr σ → p_X12_pass_26 P  f x1 x2 (absM a0 arr σ) → w_X12_pass_26 Q  f a0 x1 x2 σ := by
  intro f
  induction f with
  | zero => intro x1 x2 σ hR hp; exact hp.elim
  | succ f ih =>
    intro x1 x2 σ hR hp
    unfold p_X12_pass_26 at hp
    unfold w_X12_pass_26
    refine ⟨fun c => ?_, fun c => ?_⟩
    · replace hp := hp.1 c
      exact hq _ _ hR hp
    · replace hp := hp.2 c
      refine q_X12_ticks hR hp (fun s59 hR hp => ?_)
      exact ih _ _ _ hR hp
set_option maxRecDepth 100000 in
set_option maxHeartbeats 1000000 in
theorem q_X12_pass_16 {a0 : Nat} {arr : Nat → Nat} {P : Int32 → MS → Prop} {Q : Int32 → St → Prop} (hq : ∀ (r : Int32) (s : St), RF a0 arr s → P r (absM a0 arr s) → Q r s) : ∀ (x1 : Int32) (xs1 : Int32) (σ : St), RF a0 arr σ → p_X12_pass_16 P  x1 xs1 (absM a0 arr σ) → w_X12_pass_16 Q  a0 x1 a0 xs1 σ := by
  intro x1 xs1 σ hR hp
  unfold p_X12_pass_16 at hp
  unfold w_X12_pass_16
  refine q_X12_holds hR hp (fun x54 s55 hR hp => ?_)
  refine ⟨fun c => ?_, fun c => ?_⟩
  · replace hp := hp.1 c
    obtain ⟨f60, hp⟩ := hp
    refine ⟨f60, ?_⟩
    exact q_X12_pass_26 hq f60 _ _ _ hR hp
  · replace hp := hp.2 c
    exact hq _ _ hR hp
set_option maxRecDepth 100000 in
set_option maxHeartbeats 1000000 in
theorem q_X12_pass {a0 : Nat} {arr : Nat → Nat} {σ : St} {x1 : Int32} (hR : RF a0 arr σ) {P : Int32 → MS → Prop} (hp : p_X12_pass x1 (absM a0 arr σ) P) {Q : Int32 → St → Prop} (hq : ∀ (r : Int32) (s : St), RF a0 arr s → P r (absM a0 arr s) → Q r s) : w_X12_pass a0 x1 σ Q := by
  unfold p_X12_pass at hp
  unfold w_X12_pass
  refine q_X12_isIn hR hp (fun x51 s52 hR hp => ?_)
  refine ⟨fun c => ?_, fun c => ?_⟩
  · replace hp := hp.1 c
    exact q_X12_pass_16 hq _ _ _ hR hp
  · replace hp := hp.2 c
    exact q_X12_pass_16 hq _ _ _ hR hp
