/-! THE MODEL WITHOUT ADDRESSES -/
abbrev MS : Type := (Nat → Int32) × (Nat → Nat → Int32)
def mI (w : MS) (k : Nat) : Int32 := w.1 k
def mA (w : MS) (k j : Nat) : Int32 := w.2 k j
def mSI (k : Nat) (v : Int32) (w : MS) : MS := (fun j => if j = k then v else w.1 j, w.2)
def mSA (k i : Nat) (v : Int32) (w : MS) : MS := (w.1, fun j q => if j = k ∧ q = i then v else w.2 j q)
def mL (k : Nat) : Nat := match k with
  | 4 => 18
  | 5 => 18
  | 6 => 18
  | 7 => 18
  | 8 => 18
  | 9 => 6
  | 10 => 6
  | 11 => 6
  | 12 => 6
  | 13 => 6
  | 14 => 16
  | 16 => 12
  | 17 => 12
  | 18 => 12
  | 19 => 336
  | 20 => 216
  | 21 => 216
  | 23 => 8
  | 24 => 8
  | 25 => 8
  | 26 => 96
  | 28 => 8
  | 29 => 8
  | 30 => 8
  | 31 => 8
  | 32 => 8
  | 33 => 96
  | 34 => 2400
  | 35 => 8
  | 36 => 24
  | 37 => 24
  | 38 => 24
  | 40 => 2400
  | 41 => 2400
  | 42 => 2400
  | 43 => 2400
  | 44 => 2400
  | 46 => 60
  | 47 => 60
  | 48 => 60
  | 49 => 60
  | 50 => 60
  | 51 => 60
  | 52 => 60
  | 53 => 60
  | 54 => 60
  | 55 => 3
  | 56 => 3
  | 57 => 3
  | 58 => 180
  | 59 => 3
  | 60 => 6
  | 61 => 300
  | 62 => 300
  | 63 => 300
  | 64 => 300
  | _ => 0
def isA (k : Nat) : Bool := decide (0 < mL k)
def absM (m : Nat) (arr : Nat → Nat) (σ : St) : MS := (fun k => sI σ (1200 + k) m, fun k => sA σ (arr k))
def RF (m : Nat) (arr : Nat → Nat) (σ : St) : Prop := (∀ k, isA k = true → sR σ (1200 + k) m = some (arr k)) ∧ (∀ k, isA k = true → sL σ (arr k) = mL k) ∧ ∀ k j, isA k = true → arr k = arr j → k = j
theorem RF.ref {m : Nat} {arr : Nat → Nat} {σ : St} (h : RF m arr σ) (k : Nat) (hk : isA k = true) : sR σ (1200 + k) m = some (arr k) := h.1 k hk
theorem RF.len {m : Nat} {arr : Nat → Nat} {σ : St} (h : RF m arr σ) (k : Nat) (hk : isA k = true) : sL σ (arr k) = mL k := h.2.1 k hk
theorem RF.inj {m : Nat} {arr : Nat → Nat} {σ : St} (h : RF m arr σ) (k j : Nat) (hk : isA k = true) (e : arr k = arr j) : k = j := h.2.2 k j hk e
theorem RF.setI {m : Nat} {arr : Nat → Nat} {σ s : St} {f a : Nat} {v : Int32} (h : RF m arr σ) (e : s = setI f a v σ) : RF m arr s := by subst e; exact ⟨h.ref, h.len, h.inj⟩
theorem RF.setA {m : Nat} {arr : Nat → Nat} {σ s : St} {a i : Nat} {v : Int32} (h : RF m arr σ) (e : s = setA a i v σ) : RF m arr s := by subst e; exact ⟨h.ref, h.len, h.inj⟩
theorem abs_setI {m : Nat} {arr : Nat → Nat} {σ s : St} {v : Int32} (k : Nat) (_ : True) (e : s = setI (1200 + k) m v σ) : absM m arr s = mSI k v (absM m arr σ) := by
  subst e
  refine Prod.ext (funext fun j => ?_) rfl
  show sI (setI (1200 + k) m v σ) (1200 + j) m = if j = k then v else sI σ (1200 + j) m
  rw [sI_setI, u2_at]
  by_cases q : j = k
  · rw [if_pos q, if_pos ⟨by rw [q], rfl⟩]
  · rw [if_neg q, if_neg (fun h => q (by omega))]
theorem abs_setA {m : Nat} {arr : Nat → Nat} {σ s : St} {i : Nat} {v : Int32} (h : RF m arr σ) (k : Nat) (hk : isA k = true) (e : s = setA (arr k) i v σ) : absM m arr s = mSA k i v (absM m arr σ) := by
  subst e
  refine Prod.ext rfl (funext fun j => funext fun q => ?_)
  show sA (setA (arr k) i v σ) (arr j) q = if j = k ∧ q = i then v else sA σ (arr j) q
  rw [sA_setA, u2_at]
  by_cases e1 : j = k
  · subst e1
    by_cases e2 : q = i
    · rw [if_pos ⟨rfl, e2⟩, if_pos ⟨rfl, e2⟩]
    · rw [if_neg (fun h => e2 h.2), if_neg (fun h => e2 h.2)]
  · rw [if_neg (fun q9 => e1 (h.inj _ _ hk q9.1.symm).symm), if_neg (fun q9 => e1 q9.1)]

abbrev GM (R : Type) : Type := MS → Option (R × MS)
section
variable {R X : Type}
def gfail : GM R := fun _ => none
def gret (r : R) : GM R := fun w => some (r, w)
def grd (g : MS → GM R) : GM R := fun w => g w w
def gst (u : MS → MS) (k : GM R) : GM R := fun w => k (u w)
def gb (m : GM X) (k : X → GM R) : GM R := fun w => match m w with
  | none => none
  | some p => k p.1 p.2
def gbo {α : Type} (v : α) (k : α → GM R) : GM R := k v
def gix (x : Int32) (n : Nat) (k : GM R) : GM R := if x < 0 ∨ n ≤ x.toNatClampNeg then gfail else k
def gmd (c : Bool) (k : GM R) : GM R := if c = true then k else gfail
end
section
variable {R X : Type} {w w' : MS} {r : R}
theorem gret_some {a : R} (h : gret a w = some (r, w')) : a = r ∧ w = w' := by cases h; exact ⟨rfl, rfl⟩
theorem grd_some {g : MS → GM R} {z : Option (R × MS)} (h : grd g w = z) : g w w = z := h
theorem gst_up {u : MS → MS} {k : GM R} {w2 : MS} {z : Option (R × MS)} (h : gst u k w = z) (e : w2 = u w) : k w2 = z := by subst e; exact h
theorem gb_some {m : GM X} {k : X → GM R} (h : gb m k w = some (r, w')) : ∃ x w1, m w = some (x, w1) ∧ k x w1 = some (r, w') := by
  unfold gb at h
  split at h
  · cases h
  · rename_i p hp
    exact ⟨p.1, p.2, hp, h⟩
theorem gbo_some {α : Type} {v : α} {k : α → GM R} (h : gbo v k w = some (r, w')) : ∃ x, x = v ∧ k x w = some (r, w') := ⟨v, rfl, h⟩
theorem gix_some {x : Int32} {n : Nat} {k : GM R} (h : gix x n k w = some (r, w')) : vp_in x n ∧ k w = some (r, w') := by
  unfold gix at h
  split at h
  · cases h
  · rename_i q; exact ⟨q, h⟩
theorem gmd_some {c : Bool} {k : GM R} (h : gmd c k w = some (r, w')) : c = true ∧ k w = some (r, w') := by
  unfold gmd at h
  split at h
  · rename_i q; exact ⟨q, h⟩
  · cases h
theorem gif_t {c : Prop} {d : Decidable c} {a b : GM R} {z : Option (R × MS)} (h : (@ite _ c d a b) w = z) (hc : c) : a w = z := by rw [if_pos hc] at h; exact h
theorem gif_f {c : Prop} {d : Decidable c} {a b : GM R} {z : Option (R × MS)} (h : (@ite _ c d a b) w = z) (hc : ¬ c) : b w = z := by rw [if_neg hc] at h; exact h
end
def g_X12_bill  : GM (Int32) :=
  gst (mSI 0 0) <| grd fun w51 => gret (mI w51 2)
def g_X12_books (x1 : Int32) (x2 : Int32) (x3 : Int32) : GM (Unit) :=
  grd fun w => gbo ((12 * x1) + x2 : Int32) fun x52 => gix x52 (mL 19) <| gix x52 (mL 19) <| gst (mSA 19 x52.toNatClampNeg ((mA w 19 x52.toNatClampNeg) + x3)) <| if 18 ≤ x1 then gret () else if x3 = 0 then gret () else gix ((12 * x1) + x2) (mL 21) <| gst (mSA 21 ((12 * x1) + x2).toNatClampNeg (-1)) <| gret ()
def g_X12_cameOf_36 (K5 : Int32 → Int32 → Int32 → Int32 → GM (Int32)) (x1 : Int32) (x2 : Int32) (x4 : Int32) (xs0 : Int32) (xs1 : Int32) : GM (Int32) :=
  grd fun w => if xs1 = x2 then gix ((12 * x1) + x4) (mL 26) <| gbo (xs0 + (mA w 26 ((12 * x1) + x4).toNatClampNeg) : Int32) fun x64 => K5 x1 x2 x64 (x4 + 1) else gbo (xs0 + 0 : Int32) fun x60 => K5 x1 x2 x60 (x4 + 1)
def g_X12_cameOf_5 : Nat → Int32 → Int32 → Int32 → Int32 → GM (Int32)
  | 0, _, _, _, _ => gfail
  | f + 1, x1, x2, x3, x4 =>
    grd fun w => if (mI w 15) ≤ x4 then gret x3 else gix x4 (mL 16) <| gix x1 (mL 23) <| if (mA w 16 x4.toNatClampNeg) = (mA w 23 x1.toNatClampNeg) then g_X12_cameOf_36 (g_X12_cameOf_5 f) x1 x2 x4 x3 1 else g_X12_cameOf_36 (g_X12_cameOf_5 f) x1 x2 x4 x3 0
noncomputable def g_X12_cameOf (x1 : Int32) (x2 : Int32) : GM (Int32) :=
  g_X12_cameOf_5 FU x1 x2 0 0
def g_X12_ends_72 : Nat → Int32 → Int32 → Int32 → Int32 → GM (Unit)
  | 0, _, _, _, _ => gfail
  | f + 1, x1, x3, x4, x5 =>
    grd fun w => gix x3 (mL 59) <| if (mA w 59 x3.toNatClampNeg) ≤ x5 then gix x3 (mL 59) <| gst (mSA 59 x3.toNatClampNeg x4) <| gret () else gix ((60 * x3) + x5) (mL 58) <| gbo (mA w 58 ((60 * x3) + x5).toNatClampNeg : Int32) fun x72 => if x72 = x1 then g_X12_ends_72 f x1 x3 x4 (x5 + 1) else gix ((60 * x3) + x4) (mL 58) <| gst (mSA 58 ((60 * x3) + x4).toNatClampNeg x72) <| g_X12_ends_72 f x1 x3 (x4 + 1) (x5 + 1)
def g_X12_ends_54 (K17 : Int32 → Int32 → Int32 → GM (Unit)) (x1 : Int32) (x3 : Int32) (x4 : Int32) (os0 : Nat) (xs1 : Int32) (xs2 : Int32) : GM (Unit) :=
  gmd (isA os0) <| gix xs1 (mL os0) <| gst (mSA os0 xs1.toNatClampNeg xs2) <| K17 x1 x3 (x4 + 1)
noncomputable def g_X12_ends_17 : Nat → Int32 → Int32 → Int32 → GM (Unit)
  | 0, _, _, _ => gfail
  | f + 1, x1, x3, x4 =>
    grd fun w => if (mI w 39) ≤ x4 then if x3 = (-1) then gret () else g_X12_ends_72 FU x1 x3 0 0 else gix x4 (mL 44) <| if (mA w 44 x4.toNatClampNeg) = x1 then g_X12_ends_54 (g_X12_ends_17 f) x1 x3 x4 43 x4 0 else gix x4 (mL 43) <| g_X12_ends_54 (g_X12_ends_17 f) x1 x3 x4 43 x4 (mA w 43 x4.toNatClampNeg)
noncomputable def g_X12_ends (x1 : Int32) (x2 : Int32) : GM (Unit) :=
  grd fun w => gix x1 (mL 53) <| gbo (mA w 53 x1.toNatClampNeg : Int32) fun x54 => gix x1 (mL 52) <| gst (mSA 52 x1.toNatClampNeg x2) <| g_X12_ends_17 FU x1 x54 0
def g_X12_fitsInto_78 (K45 : Int32 → Int32 → Int32 → Int32 → GM (Int32)) (x1 : Int32) (x2 : Int32) (x3 : Int32) (x4 : Int32) (xs0 : Int32) : GM (Int32) :=
  grd fun w => if x3 = 0 then K45 x1 x2 0 (x4 + 1) else if xs0 = 0 then K45 x1 x2 1 (x4 + 1) else gix x4 (mL 12) <| gix x2 (mL 12) <| gix ((4 * (mA w 12 x4.toNatClampNeg)) + (mA w 12 x2.toNatClampNeg)) (mL 14) <| if (mA w 14 ((4 * (mA w 12 x4.toNatClampNeg)) + (mA w 12 x2.toNatClampNeg)).toNatClampNeg) = 0 then K45 x1 x2 1 (x4 + 1) else K45 x1 x2 0 (x4 + 1)
def g_X12_fitsInto_77 (K45 : Int32 → Int32 → Int32 → Int32 → GM (Int32)) (x1 : Int32) (x2 : Int32) (x3 : Int32) (x4 : Int32) : GM (Int32) :=
  g_X12_fitsInto_78 K45 x1 x2 x3 x4 0
def g_X12_fitsInto_45 : Nat → Int32 → Int32 → Int32 → Int32 → GM (Int32)
  | 0, _, _, _, _ => gfail
  | f + 1, x1, x2, x3, x4 =>
    grd fun w => if 6 ≤ x4 then gmd (decide (x3 = 0 ∨ x3 = 1)) <| gret x3 else gix x1 (mL 64) <| if (((mA w 64 x1.toNatClampNeg) >>> (x4 &&& 31)) &&& 1) = 1 then if x4 = x2 then g_X12_fitsInto_77 (g_X12_fitsInto_45 f) x1 x2 x3 x4 else g_X12_fitsInto_78 (g_X12_fitsInto_45 f) x1 x2 x3 x4 1 else g_X12_fitsInto_77 (g_X12_fitsInto_45 f) x1 x2 x3 x4
noncomputable def g_X12_fitsInto (x1 : Int32) (x2 : Int32) : GM (Int32) :=
  grd fun w => gix x1 (mL 61) <| gix x2 (mL 10) <| if 30 < ((mA w 61 x1.toNatClampNeg) + (mA w 10 x2.toNatClampNeg)) then g_X12_fitsInto_45 FU x1 x2 0 0 else gix x1 (mL 62) <| gix x2 (mL 11) <| if 50 < ((mA w 62 x1.toNatClampNeg) + (mA w 11 x2.toNatClampNeg)) then g_X12_fitsInto_45 FU x1 x2 0 0 else g_X12_fitsInto_45 FU x1 x2 1 0
def g_X12_gives (x1 : Int32) (x2 : Int32) : GM (Unit) :=
  grd fun w => gix x1 (mL 59) <| gix ((60 * x1) + (mA w 59 x1.toNatClampNeg)) (mL 58) <| gst (mSA 58 ((60 * x1) + (mA w 59 x1.toNatClampNeg)).toNatClampNeg x2) <| grd fun w57 => gix x1 (mL 59) <| gix x1 (mL 59) <| gst (mSA 59 x1.toNatClampNeg ((mA w57 59 x1.toNatClampNeg) + 1)) <| gix x2 (mL 52) <| gst (mSA 52 x2.toNatClampNeg 1) <| gix x2 (mL 53) <| gst (mSA 53 x2.toNatClampNeg x1) <| gret ()
def g_X12_holds (x1 : Int32) : GM (Int32) :=
  gst (mSI 0 x1) <| if x1 = 0 then gret 1 else gret 0
def g_X12_isFor (x1 : Int32) (x2 : Int32) : GM (Int32) :=
  grd fun w => gix x1 (mL 44) <| if (mA w 44 x1.toNatClampNeg) = (-1) then gix x1 (mL 40) <| if ((x2 >>> (((mA w 40 x1.toNatClampNeg) / 3) &&& 31)) &&& 1) = 1 then gret 1 else gret 0 else gret 0
def g_X12_isHeldByOther_5 : Nat → Int32 → Int32 → Int32 → Int32 → GM (Int32)
  | 0, _, _, _, _ => gfail
  | f + 1, x1, x2, x3, x4 =>
    grd fun w => if 3 ≤ x4 then gmd (decide (x3 = 0 ∨ x3 = 1)) <| gret x3 else if x3 = 0 then if x4 = x1 then g_X12_isHeldByOther_5 f x1 x2 0 (x4 + 1) else gix x4 (mL 55) <| if (mA w 55 x4.toNatClampNeg) = x2 then g_X12_isHeldByOther_5 f x1 x2 1 (x4 + 1) else g_X12_isHeldByOther_5 f x1 x2 0 (x4 + 1) else g_X12_isHeldByOther_5 f x1 x2 1 (x4 + 1)
noncomputable def g_X12_isHeldByOther (x1 : Int32) (x2 : Int32) : GM (Int32) :=
  g_X12_isHeldByOther_5 FU x1 x2 0 0
def g_X12_isIn (x0 : Int32) (x1 : Int32) (x2 : Int32) : GM (Int32) :=
  if x0 < x1 then gret 0 else if x2 < x0 then gret 0 else gret 1
def g_X12_isOn (x1 : Int32) : GM (Int32) :=
  grd fun w => gix x1 (mL 52) <| if (mA w 52 x1.toNatClampNeg) = 0 then gret 1 else gix x1 (mL 52) <| if (mA w 52 x1.toNatClampNeg) = 1 then gret 1 else gret 0
def g_X12_itemIn_5 : Nat → Int32 → Int32 → Int32 → Int32 → GM (Int32)
  | 0, _, _, _, _ => gfail
  | f + 1, x1, x2, x3, x4 =>
    grd fun w => if (mI w 15) ≤ x4 then gret x3 else gix x4 (mL 16) <| if (mA w 16 x4.toNatClampNeg) = x2 then gix ((12 * x1) + x4) (mL 19) <| gbo (x3 + (mA w 19 ((12 * x1) + x4).toNatClampNeg) : Int32) fun x60 => g_X12_itemIn_5 f x1 x2 x60 (x4 + 1) else gbo (x3 + 0 : Int32) fun x56 => g_X12_itemIn_5 f x1 x2 x56 (x4 + 1)
noncomputable def g_X12_itemIn (x1 : Int32) (x2 : Int32) : GM (Int32) :=
  g_X12_itemIn_5 FU x1 x2 0 0
def g_X12_lacking_16 : Nat → Int32 → Int32 → Int32 → GM (Int32)
  | 0, _, _, _ => gfail
  | f + 1, x1, x2, x3 =>
    grd fun w => if (mI w 39) ≤ x3 then gret x2 else gix x3 (mL 40) <| if (mA w 40 x3.toNatClampNeg) = x1 then gix x3 (mL 43) <| gbo (x2 - (mA w 43 x3.toNatClampNeg) : Int32) fun x67 => g_X12_lacking_16 f x1 x67 (x3 + 1) else gbo (x2 - 0 : Int32) fun x63 => g_X12_lacking_16 f x1 x63 (x3 + 1)
noncomputable def g_X12_lacking (x1 : Int32) : GM (Int32) :=
  grd fun w => gix x1 (mL 37) <| gix x1 (mL 38) <| gbo ((mA w 37 x1.toNatClampNeg) - (mA w 38 x1.toNatClampNeg) : Int32) fun x57 => g_X12_lacking_16 FU x1 x57 0
def g_X12_less (x0 : Int32) (x1 : Int32) : GM (Int32) :=
  if x1 ≤ x0 then gret x1 else gret x0
def g_X12_makes (x1 : Int32) (x2 : Int32) (x3 : Int32) (x4 : Int32) (x5 : Int32) (x6 : Int32) : GM (Int32) :=
  grd fun w => gix (mI w 45) (mL 46) <| gst (mSA 46 (mI w 45).toNatClampNeg x1) <| grd fun w54 => gix (mI w54 45) (mL 47) <| gst (mSA 47 (mI w54 45).toNatClampNeg x2) <| grd fun w58 => gix (mI w58 45) (mL 48) <| gst (mSA 48 (mI w58 45).toNatClampNeg x3) <| grd fun w62 => gix (mI w62 45) (mL 49) <| gst (mSA 49 (mI w62 45).toNatClampNeg x4) <| grd fun w66 => gix (mI w66 45) (mL 50) <| gst (mSA 50 (mI w66 45).toNatClampNeg x5) <| grd fun w70 => gix (mI w70 45) (mL 51) <| gst (mSA 51 (mI w70 45).toNatClampNeg x6) <| grd fun w74 => gix (mI w74 45) (mL 52) <| gst (mSA 52 (mI w74 45).toNatClampNeg 0) <| grd fun w78 => gix (mI w78 45) (mL 53) <| gst (mSA 53 (mI w78 45).toNatClampNeg (-1)) <| grd fun w82 => gix (mI w82 45) (mL 54) <| gst (mSA 54 (mI w82 45).toNatClampNeg 0) <| grd fun w86 => gst (mSI 45 ((mI w86 45) + 1)) <| grd fun w87 => gret ((mI w87 45) - 1)
def g_X12_nextLot_95 (K5 : Int32 → Int32 → Int32 → Int32 → GM (Int32)) (x1 : Int32) (x2 : Int32) (x3 : Int32) (x4 : Int32) (xs0 : Int32) : GM (Int32) :=
  grd fun w => if xs0 = 0 then K5 x1 x2 x3 (x4 + 1) else if x3 = (-1) then K5 x1 x2 x4 (x4 + 1) else gix x4 (mL 17) <| gix x3 (mL 17) <| if (mA w 17 x3.toNatClampNeg) ≤ (mA w 17 x4.toNatClampNeg) then K5 x1 x2 x3 (x4 + 1) else K5 x1 x2 x4 (x4 + 1)
def g_X12_nextLot_94 (K5 : Int32 → Int32 → Int32 → Int32 → GM (Int32)) (x1 : Int32) (x2 : Int32) (x3 : Int32) (x4 : Int32) : GM (Int32) :=
  g_X12_nextLot_95 K5 x1 x2 x3 x4 0
def g_X12_nextLot_62 (K5 : Int32 → Int32 → Int32 → Int32 → GM (Int32)) (x1 : Int32) (x2 : Int32) (x3 : Int32) (x4 : Int32) (xs0 : Int32) : GM (Int32) :=
  grd fun w => gix x4 (mL 16) <| if (mA w 16 x4.toNatClampNeg) = x1 then gix x4 (mL 18) <| if (mA w 18 x4.toNatClampNeg) = 0 then if xs0 = 0 then g_X12_nextLot_94 K5 x1 x2 x3 x4 else g_X12_nextLot_95 K5 x1 x2 x3 x4 1 else g_X12_nextLot_94 K5 x1 x2 x3 x4 else g_X12_nextLot_94 K5 x1 x2 x3 x4
def g_X12_nextLot_61 (K5 : Int32 → Int32 → Int32 → Int32 → GM (Int32)) (x1 : Int32) (x2 : Int32) (x3 : Int32) (x4 : Int32) : GM (Int32) :=
  g_X12_nextLot_62 K5 x1 x2 x3 x4 0
def g_X12_nextLot_5 : Nat → Int32 → Int32 → Int32 → Int32 → GM (Int32)
  | 0, _, _, _, _ => gfail
  | f + 1, x1, x2, x3, x4 =>
    grd fun w => if (mI w 15) ≤ x4 then gret x3 else if x2 = (-1) then g_X12_nextLot_62 (g_X12_nextLot_5 f) x1 x2 x3 x4 1 else gix x4 (mL 17) <| gix x2 (mL 17) <| if (mA w 17 x2.toNatClampNeg) < (mA w 17 x4.toNatClampNeg) then g_X12_nextLot_62 (g_X12_nextLot_5 f) x1 x2 x3 x4 1 else gix x4 (mL 17) <| gix x2 (mL 17) <| if (mA w 17 x4.toNatClampNeg) = (mA w 17 x2.toNatClampNeg) then if x4 ≤ x2 then g_X12_nextLot_61 (g_X12_nextLot_5 f) x1 x2 x3 x4 else g_X12_nextLot_62 (g_X12_nextLot_5 f) x1 x2 x3 x4 1 else g_X12_nextLot_61 (g_X12_nextLot_5 f) x1 x2 x3 x4
noncomputable def g_X12_nextLot (x1 : Int32) (x2 : Int32) : GM (Int32) :=
  g_X12_nextLot_5 FU x1 x2 (-1) 0
def g_X12_nextOf_4 : Nat → Int32 → Int32 → Int32 → GM (Int32)
  | 0, _, _, _ => gfail
  | f + 1, x1, x2, x3 =>
    grd fun w => if 3 ≤ x3 then gret x2 else gix x1 (mL 57) <| if (mA w 57 x1.toNatClampNeg) = (-1) then g_X12_nextOf_4 f x1 x2 (x3 + 1) else gix x3 (mL 55) <| gix x1 (mL 57) <| if (mA w 55 x3.toNatClampNeg) = (mA w 57 x1.toNatClampNeg) then g_X12_nextOf_4 f x1 x3 (x3 + 1) else g_X12_nextOf_4 f x1 x2 (x3 + 1)
noncomputable def g_X12_nextOf (x1 : Int32) : GM (Int32) :=
  g_X12_nextOf_4 FU x1 (-1) 0
def g_X12_slotAt (x0 : Int32) : GM (Int32) :=
  if (x0 / 6) = 1 then gret (17 - x0) else gret x0
def g_X12_standstills  : GM (Int32) :=
  gst (mSI 0 0) <| grd fun w51 => gret (mI w51 3)
def g_X12_tasks  : GM (Int32) :=
  gst (mSI 0 0) <| grd fun w51 => gret (mI w51 45)
def g_X12_thrown  : GM (Int32) :=
  grd fun w => gret (mI w 0)
def g_X12_tidies_4 : Nat → Int32 → Int32 → GM (Unit)
  | 0, _, _ => gfail
  | f + 1, x1, x2 =>
    grd fun w => if (mI w 39) ≤ x2 then gst (mSI 39 x1) <| gret () else gix x2 (mL 43) <| if (mA w 43 x2.toNatClampNeg) ≤ 0 then g_X12_tidies_4 f x1 (x2 + 1) else gix x2 (mL 40) <| gix x1 (mL 40) <| gst (mSA 40 x1.toNatClampNeg (mA w 40 x2.toNatClampNeg)) <| grd fun w63 => gix x2 (mL 41) <| gix x1 (mL 41) <| gst (mSA 41 x1.toNatClampNeg (mA w63 41 x2.toNatClampNeg)) <| grd fun w70 => gix x2 (mL 42) <| gix x1 (mL 42) <| gst (mSA 42 x1.toNatClampNeg (mA w70 42 x2.toNatClampNeg)) <| grd fun w77 => gix x2 (mL 43) <| gix x1 (mL 43) <| gst (mSA 43 x1.toNatClampNeg (mA w77 43 x2.toNatClampNeg)) <| grd fun w84 => gix x2 (mL 44) <| gix x1 (mL 44) <| gst (mSA 44 x1.toNatClampNeg (mA w84 44 x2.toNatClampNeg)) <| g_X12_tidies_4 f (x1 + 1) (x2 + 1)
noncomputable def g_X12_tidies  : GM (Unit) :=
  g_X12_tidies_4 FU 0 0
def g_X12_arePieces (x0 : Int32) : GM (Int32) :=
  gb (g_X12_isIn x0 1 99) fun x51 => gmd (decide (x51 = 0 ∨ x51 = 1)) <| gret x51
def g_X12_heldAt_79 : Nat → Int32 → Int32 → Int32 → Int32 → GM (Int32)
  | 0, _, _, _, _ => gfail
  | f + 1, x1, x2, x3, x4 =>
    grd fun w => if (mI w 39) ≤ x4 then gret x3 else gix x4 (mL 41) <| if (mA w 41 x4.toNatClampNeg) = x1 then gix x4 (mL 42) <| if (mA w 42 x4.toNatClampNeg) = x2 then gix x4 (mL 43) <| gbo (x3 + (mA w 43 x4.toNatClampNeg) : Int32) fun x66 => g_X12_heldAt_79 f x1 x2 x66 (x4 + 1) else gbo (x3 + 0 : Int32) fun x62 => g_X12_heldAt_79 f x1 x2 x62 (x4 + 1) else gbo (x3 + 0 : Int32) fun x57 => g_X12_heldAt_79 f x1 x2 x57 (x4 + 1)
noncomputable def g_X12_heldAt_5 : Nat → Int32 → Int32 → Int32 → Int32 → GM (Int32)
  | 0, _, _, _, _ => gfail
  | f + 1, x1, x2, x3, x4 =>
    grd fun w => if (mI w 45) ≤ x4 then g_X12_heldAt_79 FU x1 x2 x3 0 else gb (g_X12_isOn x4) fun x68 => grd fun w69 => if x68 = 0 then gbo (x3 + 0 : Int32) fun x71 => g_X12_heldAt_5 f x1 x2 x71 (x4 + 1) else gix x4 (mL 46) <| if (mA w69 46 x4.toNatClampNeg) = 2 then gbo (x3 + 0 : Int32) fun x76 => g_X12_heldAt_5 f x1 x2 x76 (x4 + 1) else gix x4 (mL 48) <| if (mA w69 48 x4.toNatClampNeg) = x1 then gix x4 (mL 47) <| if (mA w69 47 x4.toNatClampNeg) = x2 then gix x4 (mL 51) <| gbo (x3 + (mA w69 51 x4.toNatClampNeg) : Int32) fun x90 => g_X12_heldAt_5 f x1 x2 x90 (x4 + 1) else gbo (x3 + 0 : Int32) fun x86 => g_X12_heldAt_5 f x1 x2 x86 (x4 + 1) else gbo (x3 + 0 : Int32) fun x81 => g_X12_heldAt_5 f x1 x2 x81 (x4 + 1)
noncomputable def g_X12_heldAt (x1 : Int32) (x2 : Int32) : GM (Int32) :=
  g_X12_heldAt_5 FU x1 x2 0 0
def g_X12_isGroup (x0 : Int32) : GM (Int32) :=
  gb (g_X12_isIn x0 0 3) fun x51 => gmd (decide (x51 = 0 ∨ x51 = 1)) <| gret x51
def g_X12_isInRing_23 (K4 : Int32 → Int32 → Int32 → GM (Int32)) (x1 : Int32) (x3 : Int32) (xs0 : Int32) : GM (Int32) :=
  if xs0 = x1 then gret 1 else K4 x1 xs0 (x3 + 1)
noncomputable def g_X12_isInRing_4 : Nat → Int32 → Int32 → Int32 → GM (Int32)
  | 0, _, _, _ => gfail
  | f + 1, x1, x2, x3 =>
    if 3 ≤ x3 then gret 0 else if x2 = (-1) then g_X12_isInRing_23 (g_X12_isInRing_4 f) x1 x3 (-1) else gb (g_X12_nextOf x2) fun x53 => g_X12_isInRing_23 (g_X12_isInRing_4 f) x1 x3 x53
noncomputable def g_X12_isInRing (x1 : Int32) : GM (Int32) :=
  g_X12_isInRing_4 FU x1 x1 0
def g_X12_isItem (x0 : Int32) : GM (Int32) :=
  gb (g_X12_isIn x0 0 5) fun x51 => gmd (decide (x51 = 0 ∨ x51 = 1)) <| gret x51
def g_X12_isLot (x1 : Int32) : GM (Int32) :=
  grd fun w => gb (g_X12_isIn x1 0 ((mI w 15) - 1)) fun x51 => gmd (decide (x51 = 0 ∨ x51 = 1)) <| gret x51
def g_X12_isNotice (x1 : Int32) : GM (Int32) :=
  grd fun w => gb (g_X12_isIn x1 0 ((mI w 22) - 1)) fun x51 => gmd (decide (x51 = 0 ∨ x51 = 1)) <| gret x51
def g_X12_isOrder (x1 : Int32) : GM (Int32) :=
  grd fun w => gb (g_X12_isIn x1 0 ((mI w 27) - 1)) fun x51 => gmd (decide (x51 = 0 ∨ x51 = 1)) <| gret x51
def g_X12_isRobot (x0 : Int32) : GM (Int32) :=
  gb (g_X12_isIn x0 0 2) fun x51 => gmd (decide (x51 = 0 ∨ x51 = 1)) <| gret x51
def g_X12_isSlot (x0 : Int32) : GM (Int32) :=
  gb (g_X12_isIn x0 0 17) fun x51 => gmd (decide (x51 = 0 ∨ x51 = 1)) <| gret x51
def g_X12_isTask (x1 : Int32) : GM (Int32) :=
  grd fun w => gb (g_X12_isIn x1 0 ((mI w 45) - 1)) fun x51 => gmd (decide (x51 = 0 ∨ x51 = 1)) <| gret x51
def g_X12_keeps_31 (x1 : Int32) : GM (Int32) :=
  grd fun w => gix x1 (mL 51) <| gret (mA w 51 x1.toNatClampNeg)
noncomputable def g_X12_keeps (x1 : Int32) (x2 : Int32) : GM (Int32) :=
  grd fun w => gix x1 (mL 51) <| gb (g_X12_less (mA w 51 x1.toNatClampNeg) x2) fun x55 => gix x1 (mL 51) <| gst (mSA 51 x1.toNatClampNeg x55) <| grd fun w59 => gix x1 (mL 51) <| if (mA w59 51 x1.toNatClampNeg) = 0 then gb (g_X12_ends x1 3) fun u68 => g_X12_keeps_31 x1 else g_X12_keeps_31 x1
def g_X12_makesPicks_70 (K3 : Int32 → Int32 → Int32 → Int32 → GM (Unit)) (K13 : Int32 → Int32 → Int32 → Int32 → Int32 → GM (Unit)) (x1 : Int32) (x2 : Int32) (x3 : Int32) (x4 : Int32) (x5 : Int32) (xs0 : Int32) : GM (Unit) :=
  if xs0 = 0 then K13 x1 x2 x3 x4 (x5 + 1) else gb (g_X12_isFor x5 x2) fun x58 => grd fun w59 => if x58 = 0 then K13 x1 x2 x3 x4 (x5 + 1) else gix x5 (mL 42) <| gix x5 (mL 40) <| gix x5 (mL 43) <| gb (g_X12_makes 2 (mA w59 42 x5.toNatClampNeg) x3 (20 + (x4 - x4 / 8 * 8)) (mA w59 40 x5.toNatClampNeg) (mA w59 43 x5.toNatClampNeg)) fun x70 => gix x5 (mL 44) <| gst (mSA 44 x5.toNatClampNeg x70) <| gb (g_X12_gives x1 x70) fun u77 => K13 x1 x2 x3 x4 (x5 + 1)
def g_X12_makesPicks_69 (K3 : Int32 → Int32 → Int32 → Int32 → GM (Unit)) (K13 : Int32 → Int32 → Int32 → Int32 → Int32 → GM (Unit)) (x1 : Int32) (x2 : Int32) (x3 : Int32) (x4 : Int32) (x5 : Int32) : GM (Unit) :=
  g_X12_makesPicks_70 K3 K13 x1 x2 x3 x4 x5 0
def g_X12_makesPicks_13 (K3 : Int32 → Int32 → Int32 → Int32 → GM (Unit)) : Nat → Int32 → Int32 → Int32 → Int32 → Int32 → GM (Unit)
  | 0, _, _, _, _, _ => gfail
  | f + 1, x1, x2, x3, x4, x5 =>
    grd fun w => if (mI w 39) ≤ x5 then K3 x1 x2 x3 (x4 + 1) else gix x5 (mL 41) <| if (mA w 41 x5.toNatClampNeg) = x3 then gix x5 (mL 42) <| if (mA w 42 x5.toNatClampNeg) = (x4 / 8) then gix x5 (mL 40) <| if ((mA w 40 x5.toNatClampNeg) / 3) = (x4 - x4 / 8 * 8) then g_X12_makesPicks_70 K3 (g_X12_makesPicks_13 K3 f) x1 x2 x3 x4 x5 1 else g_X12_makesPicks_69 K3 (g_X12_makesPicks_13 K3 f) x1 x2 x3 x4 x5 else g_X12_makesPicks_69 K3 (g_X12_makesPicks_13 K3 f) x1 x2 x3 x4 x5 else g_X12_makesPicks_69 K3 (g_X12_makesPicks_13 K3 f) x1 x2 x3 x4 x5
noncomputable def g_X12_makesPicks_3 : Nat → Int32 → Int32 → Int32 → Int32 → GM (Unit)
  | 0, _, _, _, _ => gfail
  | f + 1, x1, x2, x3, x4 =>
    if 96 ≤ x4 then gret () else g_X12_makesPicks_13 (g_X12_makesPicks_3 f) FU x1 x2 x3 x4 0
noncomputable def g_X12_makesPicks (x1 : Int32) (x2 : Int32) (x3 : Int32) : GM (Unit) :=
  g_X12_makesPicks_3 FU x1 x2 x3 0
noncomputable def g_X12_moves (x1 : Int32) (x2 : Int32) : GM (Unit) :=
  grd fun w => gix x1 (mL 48) <| gix x1 (mL 47) <| gix x1 (mL 51) <| gb (g_X12_books (mA w 48 x1.toNatClampNeg) (mA w 47 x1.toNatClampNeg) (-(mA w 51 x1.toNatClampNeg))) fun u61 => grd fun w61 => gix x1 (mL 49) <| gix x1 (mL 47) <| gix x1 (mL 51) <| gb (g_X12_books (mA w61 49 x1.toNatClampNeg) (mA w61 47 x1.toNatClampNeg) (mA w61 51 x1.toNatClampNeg)) fun u72 => grd fun w72 => gst (mSI 2 ((mI w72 2) + x2)) <| gb (g_X12_ends x1 2) fun u75 => gb (g_X12_tidies) fun u77 => gret ()
def g_X12_order_40 (x1 : Int32) (x2 : Int32) (x3 : Int32) (xs1 : Int32) : GM (Int32) :=
  gb (g_X12_holds xs1) fun x54 => grd fun w55 => if x54 = 0 then gret 0 else gix (mI w55 27) (mL 28) <| gst (mSA 28 (mI w55 27).toNatClampNeg x1) <| grd fun w60 => gix (mI w60 27) (mL 29) <| gmd (decide (x2 = 0 ∨ x2 = 1)) <| gst (mSA 29 (mI w60 27).toNatClampNeg x2) <| grd fun w64 => gix (mI w64 27) (mL 30) <| gst (mSA 30 (mI w64 27).toNatClampNeg x3) <| grd fun w69 => gst (mSI 27 ((mI w69 27) + 1)) <| grd fun w70 => gret ((mI w70 27) - 1)
def g_X12_order (x1 : Int32) (x2 : Int32) (x3 : Int32) : GM (Int32) :=
  gb (g_X12_isIn x1 0 9) fun x51 => if x51 = 0 then g_X12_order_40 x1 x2 x3 1 else gb (g_X12_isIn x3 0 999) fun x71 => grd fun w72 => if x71 = 0 then g_X12_order_40 x1 x2 x3 1 else if (mI w72 27) = 8 then g_X12_order_40 x1 x2 x3 2 else g_X12_order_40 x1 x2 x3 0
def g_X12_packs_144 (K33 : Int32 → Int32 → GM (Int32)) (K48 : Int32 → Int32 → Int32 → Int32 → GM (Int32)) (x2 : Int32) (x3 : Int32) (x4 : Int32) (x5 : Int32) (x6 : Int32) : GM (Int32) :=
  grd fun w => gix x6 (mL 61) <| gix x4 (mL 10) <| gix x6 (mL 61) <| gst (mSA 61 x6.toNatClampNeg ((mA w 61 x6.toNatClampNeg) + (mA w 10 x4.toNatClampNeg))) <| grd fun w71 => gix x6 (mL 62) <| gix x4 (mL 11) <| gix x6 (mL 62) <| gst (mSA 62 x6.toNatClampNeg ((mA w71 62 x6.toNatClampNeg) + (mA w71 11 x4.toNatClampNeg))) <| grd fun w79 => gix x6 (mL 63) <| gix x6 (mL 63) <| gst (mSA 63 x6.toNatClampNeg ((mA w79 63 x6.toNatClampNeg) + 1)) <| grd fun w84 => gix x6 (mL 64) <| gix x6 (mL 64) <| gst (mSA 64 x6.toNatClampNeg ((mA w84 64 x6.toNatClampNeg) ||| (1 <<< (x4 &&& 31)))) <| K48 x2 x3 x4 (x5 + 1)
def g_X12_packs_103 (K33 : Int32 → Int32 → GM (Int32)) (K48 : Int32 → Int32 → Int32 → Int32 → GM (Int32)) (x2 : Int32) (x3 : Int32) (x4 : Int32) (x5 : Int32) (x6 : Int32) : GM (Int32) :=
  if x6 = x2 then gix x6 (mL 61) <| gst (mSA 61 x6.toNatClampNeg 0) <| gix x6 (mL 62) <| gst (mSA 62 x6.toNatClampNeg 0) <| gix x6 (mL 63) <| gst (mSA 63 x6.toNatClampNeg 0) <| gix x6 (mL 64) <| gst (mSA 64 x6.toNatClampNeg 0) <| g_X12_packs_144 K33 K48 (x2 + 1) x3 x4 x5 x6 else g_X12_packs_144 K33 K48 x2 x3 x4 x5 x6
noncomputable def g_X12_packs_80 (K33 : Int32 → Int32 → GM (Int32)) (K48 : Int32 → Int32 → Int32 → Int32 → GM (Int32)) : Nat → Int32 → Int32 → Int32 → Int32 → Int32 → GM (Int32)
  | 0, _, _, _, _, _ => gfail
  | f + 1, x2, x3, x4, x5, x6 =>
    if x2 ≤ x6 then g_X12_packs_103 K33 K48 x2 x3 x4 x5 x6 else gb (g_X12_fitsInto x6 x4) fun x106 => if x106 = 0 then g_X12_packs_80 K33 K48 f x2 x3 x4 x5 (x6 + 1) else g_X12_packs_103 K33 K48 x2 x3 x4 x5 x6
noncomputable def g_X12_packs_48 (K33 : Int32 → Int32 → GM (Int32)) : Nat → Int32 → Int32 → Int32 → Int32 → GM (Int32)
  | 0, _, _, _, _ => gfail
  | f + 1, x2, x3, x4, x5 =>
    grd fun w => gix x4 (mL 60) <| if (mA w 60 x4.toNatClampNeg) ≤ x5 then K33 x2 (x3 + 1) else gix x4 (mL 10) <| if (mA w 10 x4.toNatClampNeg) = (9 - (x3 / 6)) then g_X12_packs_80 K33 (g_X12_packs_48 K33 f) FU x2 x3 x4 x5 0 else K33 x2 (x3 + 1)
noncomputable def g_X12_packs_33 : Nat → Int32 → Int32 → GM (Int32)
  | 0, _, _ => gfail
  | f + 1, x2, x3 =>
    if 54 ≤ x3 then gret x2 else gbo (x3 - x3 / 6 * 6 : Int32) fun x53 => g_X12_packs_48 (g_X12_packs_33 f) FU x2 x3 x53 0
noncomputable def g_X12_packs_4 : Nat → Int32 → Int32 → Int32 → GM (Int32)
  | 0, _, _, _ => gfail
  | f + 1, x1, x2, x3 =>
    if 6 ≤ x3 then g_X12_packs_33 FU x2 0 else gb (g_X12_itemIn (20 + x1) x3) fun x113 => gix x3 (mL 60) <| gst (mSA 60 x3.toNatClampNeg x113) <| g_X12_packs_4 f x1 x2 (x3 + 1)
noncomputable def g_X12_packs (x1 : Int32) : GM (Int32) :=
  g_X12_packs_4 FU x1 0 0
def g_X12_picks_4 : Nat → Int32 → Int32 → Int32 → GM (Int32)
  | 0, _, _, _ => gfail
  | f + 1, x1, x2, x3 =>
    grd fun w => if (mI w 39) ≤ x3 then gret x2 else gb (g_X12_isFor x3 x1) fun x52 => if x52 = 0 then gbo (x2 + 0 : Int32) fun x55 => g_X12_picks_4 f x1 x55 (x3 + 1) else gbo (x2 + 1 : Int32) fun x56 => g_X12_picks_4 f x1 x56 (x3 + 1)
noncomputable def g_X12_picks (x1 : Int32) : GM (Int32) :=
  g_X12_picks_4 FU x1 0 0
def g_X12_roomHeld_4 : Nat → Int32 → Int32 → Int32 → GM (Int32)
  | 0, _, _, _ => gfail
  | f + 1, x1, x2, x3 =>
    grd fun w => if (mI w 45) ≤ x3 then gret x2 else gb (g_X12_isOn x3) fun x52 => grd fun w53 => if x52 = 0 then gbo (x2 + 0 : Int32) fun x55 => g_X12_roomHeld_4 f x1 x55 (x3 + 1) else gix x3 (mL 46) <| if (mA w53 46 x3.toNatClampNeg) = 2 then gbo (x2 + 0 : Int32) fun x60 => g_X12_roomHeld_4 f x1 x60 (x3 + 1) else gix x3 (mL 49) <| if (mA w53 49 x3.toNatClampNeg) = x1 then gix x3 (mL 51) <| gix x3 (mL 47) <| gix (mA w53 47 x3.toNatClampNeg) (mL 16) <| gix (mA w53 16 (mA w53 47 x3.toNatClampNeg).toNatClampNeg) (mL 10) <| gbo (x2 + ((mA w53 51 x3.toNatClampNeg) * (mA w53 10 (mA w53 16 (mA w53 47 x3.toNatClampNeg).toNatClampNeg).toNatClampNeg)) : Int32) fun x78 => g_X12_roomHeld_4 f x1 x78 (x3 + 1) else gbo (x2 + 0 : Int32) fun x65 => g_X12_roomHeld_4 f x1 x65 (x3 + 1)
noncomputable def g_X12_roomHeld (x1 : Int32) : GM (Int32) :=
  g_X12_roomHeld_4 FU x1 0 0
def g_X12_standsIn_18 : Nat → Int32 → Int32 → Int32 → Int32 → GM (Int32)
  | 0, _, _, _, _ => gfail
  | f + 1, x1, x2, x3, x4 =>
    grd fun w => if (mI w 45) ≤ x4 then gmd (decide (x3 = 0 ∨ x3 = 1)) <| gret x3 else if x3 = 0 then gb (g_X12_isOn x4) fun x56 => grd fun w57 => if x56 = 0 then g_X12_standsIn_18 f x1 x2 0 (x4 + 1) else gix x4 (mL 46) <| if (mA w57 46 x4.toNatClampNeg) = 2 then g_X12_standsIn_18 f x1 x2 0 (x4 + 1) else gix x4 (mL 49) <| if (mA w57 49 x4.toNatClampNeg) = x1 then gix x4 (mL 47) <| gix (mA w57 47 x4.toNatClampNeg) (mL 16) <| if (mA w57 16 (mA w57 47 x4.toNatClampNeg).toNatClampNeg) = x2 then g_X12_standsIn_18 f x1 x2 1 (x4 + 1) else g_X12_standsIn_18 f x1 x2 0 (x4 + 1) else g_X12_standsIn_18 f x1 x2 0 (x4 + 1) else g_X12_standsIn_18 f x1 x2 1 (x4 + 1)
noncomputable def g_X12_standsIn (x1 : Int32) (x2 : Int32) : GM (Int32) :=
  gb (g_X12_itemIn x1 x2) fun x51 => if x51 ≤ 0 then g_X12_standsIn_18 FU x1 x2 0 0 else g_X12_standsIn_18 FU x1 x2 1 0
def g_X12_bar_20 (x1 : Int32) (x2 : Int32) (x3 : Int32) (xs1 : Int32) : GM (Int32) :=
  gb (g_X12_holds xs1) fun x54 => grd fun w55 => if x54 = 0 then gret 0 else gix ((4 * x1) + x2) (mL 14) <| gbo (mA w55 14 ((4 * x1) + x2).toNatClampNeg : Int32) fun x60 => gix ((4 * x1) + x2) (mL 14) <| gmd (decide (x3 = 0 ∨ x3 = 1)) <| gst (mSA 14 ((4 * x1) + x2).toNatClampNeg x3) <| gix ((4 * x2) + x1) (mL 14) <| gmd (decide (x3 = 0 ∨ x3 = 1)) <| gst (mSA 14 ((4 * x2) + x1).toNatClampNeg x3) <| gmd (decide (x60 = 0 ∨ x60 = 1)) <| gret x60
def g_X12_bar_19 (x1 : Int32) (x2 : Int32) (x3 : Int32) : GM (Int32) :=
  g_X12_bar_20 x1 x2 x3 1
def g_X12_bar (x1 : Int32) (x2 : Int32) (x3 : Int32) : GM (Int32) :=
  gb (g_X12_isGroup x1) fun x51 => if x51 = 0 then g_X12_bar_19 x1 x2 x3 else gb (g_X12_isGroup x2) fun x71 => if x71 = 0 then g_X12_bar_19 x1 x2 x3 else g_X12_bar_20 x1 x2 x3 0
noncomputable def g_X12_boxesOf (x1 : Int32) : GM (Int32) :=
  grd fun w => gix x1 (mL 32) <| if (mA w 32 x1.toNatClampNeg) = 0 then gb (g_X12_packs x1) fun x55 => gret x55 else gix x1 (mL 35) <| gret (mA w 35 x1.toNatClampNeg)
noncomputable def g_X12_close_29 (x1 : Int32) (xs1 : Int32) : GM (Int32) :=
  gb (g_X12_holds xs1) fun x58 => if x58 = 0 then gret 0 else gix x1 (mL 25) <| gst (mSA 25 x1.toNatClampNeg 1) <| gb (g_X12_cameOf x1 1) fun x65 => grd fun w66 => gix x1 (mL 24) <| gret (x65 - (mA w66 24 x1.toNatClampNeg))
noncomputable def g_X12_close (x1 : Int32) : GM (Int32) :=
  gb (g_X12_isNotice x1) fun x51 => grd fun w52 => if x51 = 0 then g_X12_close_29 x1 1 else gix x1 (mL 25) <| if (mA w52 25 x1.toNatClampNeg) = 0 then g_X12_close_29 x1 0 else g_X12_close_29 x1 2
def g_X12_comeBack_64 (x1 : Int32) (x2 : Int32) (x3 : Int32) (xs1 : Int32) : GM (Int32) :=
  gb (g_X12_holds xs1) fun x62 => grd fun w63 => if x62 = 0 then gret 0 else gbo ((12 * x1) + x2 : Int32) fun x66 => gix x66 (mL 33) <| gix x66 (mL 33) <| gst (mSA 33 x66.toNatClampNeg ((mA w63 33 x66.toNatClampNeg) - x3)) <| gb (g_X12_books 19 x2 x3) fun u72 => grd fun w72 => gst (mSI 2 ((mI w72 2) + (2 * x3))) <| grd fun w73 => gix (228 + x2) (mL 19) <| gret (mA w73 19 (228 + x2).toNatClampNeg)
def g_X12_comeBack_21 (x1 : Int32) (x2 : Int32) (x3 : Int32) (xs0 : Int32) : GM (Int32) :=
  if xs0 = 0 then g_X12_comeBack_64 x1 x2 x3 1 else gb (g_X12_arePieces x3) fun x55 => grd fun w56 => if x55 = 0 then g_X12_comeBack_64 x1 x2 x3 2 else gix ((12 * x1) + x2) (mL 33) <| if x3 ≤ (mA w56 33 ((12 * x1) + x2).toNatClampNeg) then g_X12_comeBack_64 x1 x2 x3 0 else g_X12_comeBack_64 x1 x2 x3 3
def g_X12_comeBack_20 (x1 : Int32) (x2 : Int32) (x3 : Int32) : GM (Int32) :=
  g_X12_comeBack_21 x1 x2 x3 0
def g_X12_comeBack (x1 : Int32) (x2 : Int32) (x3 : Int32) : GM (Int32) :=
  gb (g_X12_isOrder x1) fun x51 => if x51 = 0 then g_X12_comeBack_20 x1 x2 x3 else gb (g_X12_isLot x2) fun x77 => if x77 = 0 then g_X12_comeBack_20 x1 x2 x3 else g_X12_comeBack_21 x1 x2 x3 1
def g_X12_doing_13 (x1 : Int32) (xs1 : Int32) : GM (Int32) :=
  gb (g_X12_holds xs1) fun x54 => grd fun w55 => if x54 = 0 then gret 0 else gix x1 (mL 59) <| if (mA w55 59 x1.toNatClampNeg) = 0 then gret (-1) else gix (60 * x1) (mL 58) <| gret (mA w55 58 (60 * x1).toNatClampNeg)
def g_X12_doing (x1 : Int32) : GM (Int32) :=
  gb (g_X12_isRobot x1) fun x51 => if x51 = 0 then g_X12_doing_13 x1 1 else g_X12_doing_13 x1 0
def g_X12_find_44 (x1 : Int32) (x2 : Int32) (x3 : Int32) (xs1 : Int32) : GM (Int32) :=
  gb (g_X12_holds xs1) fun x58 => grd fun w59 => if x58 = 0 then gret 0 else gbo ((12 * x1) + x2 : Int32) fun x62 => gix x62 (mL 20) <| gix x62 (mL 20) <| gst (mSA 20 x62.toNatClampNeg ((mA w59 20 x62.toNatClampNeg) + x3)) <| grd fun w66 => gix ((12 * x1) + x2) (mL 20) <| gret (mA w66 20 ((12 * x1) + x2).toNatClampNeg)
def g_X12_find_20 (x1 : Int32) (x2 : Int32) (x3 : Int32) (xs0 : Int32) : GM (Int32) :=
  if xs0 = 0 then g_X12_find_44 x1 x2 x3 1 else gb (g_X12_arePieces x3) fun x55 => if x55 = 0 then g_X12_find_44 x1 x2 x3 2 else g_X12_find_44 x1 x2 x3 0
def g_X12_find_19 (x1 : Int32) (x2 : Int32) (x3 : Int32) : GM (Int32) :=
  g_X12_find_20 x1 x2 x3 0
def g_X12_find (x1 : Int32) (x2 : Int32) (x3 : Int32) : GM (Int32) :=
  gb (g_X12_isSlot x1) fun x51 => if x51 = 0 then g_X12_find_19 x1 x2 x3 else gb (g_X12_isLot x2) fun x70 => if x70 = 0 then g_X12_find_19 x1 x2 x3 else g_X12_find_20 x1 x2 x3 1
noncomputable def g_X12_freeAt (x1 : Int32) (x2 : Int32) : GM (Int32) :=
  grd fun w => gix ((12 * x1) + x2) (mL 19) <| gb (g_X12_heldAt x1 x2) fun x54 => gret ((mA w 19 ((12 * x1) + x2).toNatClampNeg) - x54)
def g_X12_give_44 (x1 : Int32) (x2 : Int32) (xs1 : Int32) : GM (Int32) :=
  gb (g_X12_holds xs1) fun x59 => if x59 = 0 then gret 0 else gb (g_X12_gives x1 x2) fun u63 => grd fun w63 => gix x1 (mL 59) <| gret (mA w63 59 x1.toNatClampNeg)
def g_X12_give_20 (x1 : Int32) (x2 : Int32) (xs0 : Int32) : GM (Int32) :=
  grd fun w => if xs0 = 0 then g_X12_give_44 x1 x2 1 else gix x2 (mL 52) <| if (mA w 52 x2.toNatClampNeg) = 0 then g_X12_give_44 x1 x2 0 else g_X12_give_44 x1 x2 2
def g_X12_give_19 (x1 : Int32) (x2 : Int32) : GM (Int32) :=
  g_X12_give_20 x1 x2 0
def g_X12_give (x1 : Int32) (x2 : Int32) : GM (Int32) :=
  gb (g_X12_isRobot x1) fun x51 => if x51 = 0 then g_X12_give_19 x1 x2 else gb (g_X12_isTask x2) fun x67 => if x67 = 0 then g_X12_give_19 x1 x2 else g_X12_give_20 x1 x2 1
def g_X12_held_43 : Nat → Int32 → Int32 → Int32 → Int32 → Int32 → GM (Int32)
  | 0, _, _, _, _, _ => gfail
  | f + 1, x1, x2, x3, x4, x5 =>
    grd fun w => if (mI w 39) ≤ x5 then gret x4 else gix x5 (mL 40) <| if ((mA w 40 x5.toNatClampNeg) / 3) = x1 then gix x5 (mL 41) <| if (mA w 41 x5.toNatClampNeg) = x2 then gix x5 (mL 42) <| if (mA w 42 x5.toNatClampNeg) = x3 then gix x5 (mL 43) <| gbo (x4 + (mA w 43 x5.toNatClampNeg) : Int32) fun x76 => g_X12_held_43 f x1 x2 x3 x76 (x5 + 1) else gbo (x4 + 0 : Int32) fun x72 => g_X12_held_43 f x1 x2 x3 x72 (x5 + 1) else gbo (x4 + 0 : Int32) fun x67 => g_X12_held_43 f x1 x2 x3 x67 (x5 + 1) else gbo (x4 + 0 : Int32) fun x62 => g_X12_held_43 f x1 x2 x3 x62 (x5 + 1)
noncomputable def g_X12_held_29 (x1 : Int32) (x2 : Int32) (x3 : Int32) (xs1 : Int32) : GM (Int32) :=
  gb (g_X12_holds xs1) fun x54 => if x54 = 0 then gret 0 else g_X12_held_43 FU x1 x2 x3 0 0
noncomputable def g_X12_held_28 (x1 : Int32) (x2 : Int32) (x3 : Int32) : GM (Int32) :=
  g_X12_held_29 x1 x2 x3 1
noncomputable def g_X12_held (x1 : Int32) (x2 : Int32) (x3 : Int32) : GM (Int32) :=
  gb (g_X12_isOrder x1) fun x51 => if x51 = 0 then g_X12_held_28 x1 x2 x3 else gb (g_X12_isSlot x2) fun x78 => if x78 = 0 then g_X12_held_28 x1 x2 x3 else gb (g_X12_isLot x3) fun x81 => if x81 = 0 then g_X12_held_28 x1 x2 x3 else g_X12_held_29 x1 x2 x3 0
def g_X12_isAsked_23 (xs1 : Int32) : GM (Int32) :=
  gb (g_X12_holds xs1) fun x54 => gmd (decide (x54 = 0 ∨ x54 = 1)) <| gret x54
def g_X12_isAsked_22  : GM (Int32) :=
  g_X12_isAsked_23 1
def g_X12_isAsked (x1 : Int32) (x2 : Int32) (x3 : Int32) : GM (Int32) :=
  gb (g_X12_isIn x1 0 x2) fun x51 => if x51 = 0 then g_X12_isAsked_22 else gb (g_X12_isLot x3) fun x56 => if x56 = 0 then g_X12_isAsked_22 else g_X12_isAsked_23 0
noncomputable def g_X12_isBarredIn_5 : Nat → Int32 → Int32 → Int32 → Int32 → GM (Int32)
  | 0, _, _, _, _ => gfail
  | f + 1, x1, x2, x3, x4 =>
    grd fun w => if 6 ≤ x4 then gmd (decide (x3 = 0 ∨ x3 = 1)) <| gret x3 else if x3 = 0 then if x4 = x2 then g_X12_isBarredIn_5 f x1 x2 0 (x4 + 1) else gix x4 (mL 12) <| gix x2 (mL 12) <| gix ((4 * (mA w 12 x4.toNatClampNeg)) + (mA w 12 x2.toNatClampNeg)) (mL 14) <| if (mA w 14 ((4 * (mA w 12 x4.toNatClampNeg)) + (mA w 12 x2.toNatClampNeg)).toNatClampNeg) = 0 then g_X12_isBarredIn_5 f x1 x2 0 (x4 + 1) else gb (g_X12_standsIn x1 x4) fun x64 => if x64 = 0 then g_X12_isBarredIn_5 f x1 x2 0 (x4 + 1) else g_X12_isBarredIn_5 f x1 x2 1 (x4 + 1) else g_X12_isBarredIn_5 f x1 x2 1 (x4 + 1)
noncomputable def g_X12_isBarredIn (x1 : Int32) (x2 : Int32) : GM (Int32) :=
  g_X12_isBarredIn_5 FU x1 x2 0 0
noncomputable def g_X12_isEmpty_16 : Nat → Int32 → Int32 → Int32 → GM (Int32)
  | 0, _, _, _ => gfail
  | f + 1, x1, x2, x3 =>
    if 6 ≤ x3 then gmd (decide (x2 = 0 ∨ x2 = 1)) <| gret x2 else if x2 = 0 then g_X12_isEmpty_16 f x1 0 (x3 + 1) else gb (g_X12_itemIn x1 x3) fun x56 => if x56 = 0 then g_X12_isEmpty_16 f x1 1 (x3 + 1) else g_X12_isEmpty_16 f x1 0 (x3 + 1)
noncomputable def g_X12_isEmpty (x1 : Int32) : GM (Int32) :=
  gb (g_X12_roomHeld x1) fun x51 => if x51 = 0 then g_X12_isEmpty_16 FU x1 1 0 else g_X12_isEmpty_16 FU x1 0 0
def g_X12_item_161 (x1 : Int32) (x2 : Int32) (x3 : Int32) (x4 : Int32) (x5 : Int32) (x6 : Int32) (xs1 : Int32) : GM (Unit) :=
  gb (g_X12_holds xs1) fun x61 => if x61 = 0 then gret () else gix x1 (mL 9) <| gst (mSA 9 x1.toNatClampNeg x2) <| gix x1 (mL 10) <| gst (mSA 10 x1.toNatClampNeg x3) <| gix x1 (mL 11) <| gst (mSA 11 x1.toNatClampNeg x4) <| gix x1 (mL 12) <| gst (mSA 12 x1.toNatClampNeg x5) <| gix x1 (mL 13) <| gst (mSA 13 x1.toNatClampNeg x6) <| gret ()
def g_X12_item_76 : Nat → Int32 → Int32 → Int32 → Int32 → Int32 → Int32 → Int32 → Int32 → Int32 → Int32 → GM (Unit)
  | 0, _, _, _, _, _, _, _, _, _, _ => gfail
  | f + 1, x1, x2, x3, x4, x5, x6, x7, x8, x9, x10 =>
    grd fun w => if 18 ≤ x10 then if x7 = 0 then g_X12_item_161 x1 x2 x3 x4 x5 x6 1 else if x8 = 0 then g_X12_item_161 x1 x2 x3 x4 x5 x6 2 else if x9 = 0 then g_X12_item_161 x1 x2 x3 x4 x5 x6 0 else g_X12_item_161 x1 x2 x3 x4 x5 x6 3 else if x9 = 0 then gix x10 (mL 6) <| if (mA w 6 x10.toNatClampNeg) = x1 then g_X12_item_76 f x1 x2 x3 x4 x5 x6 x7 x8 1 (x10 + 1) else if (mI w 15) ≤ x10 then g_X12_item_76 f x1 x2 x3 x4 x5 x6 x7 x8 0 (x10 + 1) else gix x10 (mL 16) <| if (mA w 16 x10.toNatClampNeg) = x1 then g_X12_item_76 f x1 x2 x3 x4 x5 x6 x7 x8 1 (x10 + 1) else g_X12_item_76 f x1 x2 x3 x4 x5 x6 x7 x8 0 (x10 + 1) else g_X12_item_76 f x1 x2 x3 x4 x5 x6 x7 x8 1 (x10 + 1)
noncomputable def g_X12_item_67 (x1 : Int32) (x2 : Int32) (x3 : Int32) (x4 : Int32) (x5 : Int32) (x6 : Int32) (x7 : Int32) : GM (Unit) :=
  g_X12_item_76 FU x1 x2 x3 x4 x5 x6 x7 0 0 0
noncomputable def g_X12_item_20 (x1 : Int32) (x2 : Int32) (x3 : Int32) (x4 : Int32) (x5 : Int32) (x6 : Int32) (xs0 : Int32) : GM (Unit) :=
  gb (g_X12_isIn x2 0 2) fun x54 => if x54 = 0 then g_X12_item_67 x1 x2 x3 x4 x5 x6 xs0 else gb (g_X12_isIn x3 1 9) fun x95 => if x95 = 0 then g_X12_item_67 x1 x2 x3 x4 x5 x6 xs0 else gb (g_X12_isIn x4 1 20) fun x98 => if x98 = 0 then g_X12_item_67 x1 x2 x3 x4 x5 x6 xs0 else gb (g_X12_isIn x6 1 12) fun x101 => if x101 = 0 then g_X12_item_67 x1 x2 x3 x4 x5 x6 xs0 else g_X12_item_76 FU x1 x2 x3 x4 x5 x6 xs0 1 0 0
noncomputable def g_X12_item_19 (x1 : Int32) (x2 : Int32) (x3 : Int32) (x4 : Int32) (x5 : Int32) (x6 : Int32) : GM (Unit) :=
  g_X12_item_20 x1 x2 x3 x4 x5 x6 0
noncomputable def g_X12_item (x1 : Int32) (x2 : Int32) (x3 : Int32) (x4 : Int32) (x5 : Int32) (x6 : Int32) : GM (Unit) :=
  gb (g_X12_isItem x1) fun x51 => if x51 = 0 then g_X12_item_19 x1 x2 x3 x4 x5 x6 else gb (g_X12_isGroup x5) fun x105 => if x105 = 0 then g_X12_item_19 x1 x2 x3 x4 x5 x6 else g_X12_item_20 x1 x2 x3 x4 x5 x6 1
def g_X12_judge_77 (x1 : Int32) (xs1 : Int32) (xs2 : Int32) (xs3 : Int32) : GM (Int32) :=
  gb (g_X12_books xs1 xs2 xs3) fun u68 => grd fun w68 => gix (228 + x1) (mL 19) <| gret (mA w68 19 (228 + x1).toNatClampNeg)
def g_X12_judge_47 (x1 : Int32) (x2 : Int32) (x3 : Int32) (xs1 : Int32) : GM (Int32) :=
  gb (g_X12_holds xs1) fun x61 => if x61 = 0 then gret 0 else gb (g_X12_books 19 x1 (-x2)) fun u65 => if x3 = 0 then g_X12_judge_77 x1 18 x1 0 else g_X12_judge_77 x1 18 x1 x2
def g_X12_judge (x1 : Int32) (x2 : Int32) (x3 : Int32) : GM (Int32) :=
  gb (g_X12_isLot x1) fun x51 => if x51 = 0 then g_X12_judge_47 x1 x2 x3 1 else gb (g_X12_arePieces x2) fun x54 => grd fun w55 => if x54 = 0 then g_X12_judge_47 x1 x2 x3 2 else gix (228 + x1) (mL 19) <| if x2 ≤ (mA w55 19 (228 + x1).toNatClampNeg) then g_X12_judge_47 x1 x2 x3 0 else g_X12_judge_47 x1 x2 x3 3
noncomputable def g_X12_lacks_40 (x1 : Int32) (x2 : Int32) (xs1 : Int32) : GM (Int32) :=
  gb (g_X12_holds xs1) fun x55 => if x55 = 0 then gret 0 else gb (g_X12_lacking ((3 * x1) + x2)) fun x58 => gret x58
noncomputable def g_X12_lacks_29 (x1 : Int32) (x2 : Int32) (xs0 : Int32) : GM (Int32) :=
  if xs0 = 0 then g_X12_lacks_40 x1 x2 1 else g_X12_lacks_40 x1 x2 0
noncomputable def g_X12_lacks_28 (x1 : Int32) (x2 : Int32) : GM (Int32) :=
  g_X12_lacks_29 x1 x2 0
noncomputable def g_X12_lacks (x1 : Int32) (x2 : Int32) : GM (Int32) :=
  gb (g_X12_isOrder x1) fun x51 => grd fun w52 => if x51 = 0 then g_X12_lacks_28 x1 x2 else gix x1 (mL 31) <| gb (g_X12_isIn x2 0 ((mA w52 31 x1.toNatClampNeg) - 1)) fun x63 => if x63 = 0 then g_X12_lacks_28 x1 x2 else g_X12_lacks_29 x1 x2 1
def g_X12_line_67 (x1 : Int32) (x2 : Int32) (x3 : Int32) (xs1 : Int32) : GM (Int32) :=
  gb (g_X12_holds xs1) fun x62 => grd fun w63 => if x62 = 0 then gret 0 else gix x1 (mL 31) <| gbo ((3 * x1) + (mA w63 31 x1.toNatClampNeg) : Int32) fun x68 => gix x68 (mL 36) <| gst (mSA 36 x68.toNatClampNeg x2) <| gix x68 (mL 37) <| gst (mSA 37 x68.toNatClampNeg x3) <| grd fun w76 => gix x1 (mL 31) <| gix x1 (mL 31) <| gst (mSA 31 x1.toNatClampNeg ((mA w76 31 x1.toNatClampNeg) + 1)) <| grd fun w81 => gix x1 (mL 31) <| gret (mA w81 31 x1.toNatClampNeg)
def g_X12_line_20 (x1 : Int32) (x2 : Int32) (x3 : Int32) (xs0 : Int32) : GM (Int32) :=
  if xs0 = 0 then g_X12_line_67 x1 x2 x3 1 else gb (g_X12_arePieces x3) fun x55 => grd fun w56 => if x55 = 0 then g_X12_line_67 x1 x2 x3 2 else gix x1 (mL 31) <| if (mA w56 31 x1.toNatClampNeg) = 3 then g_X12_line_67 x1 x2 x3 3 else gix x1 (mL 32) <| if (mA w56 32 x1.toNatClampNeg) = 0 then g_X12_line_67 x1 x2 x3 0 else g_X12_line_67 x1 x2 x3 3
def g_X12_line_19 (x1 : Int32) (x2 : Int32) (x3 : Int32) : GM (Int32) :=
  g_X12_line_20 x1 x2 x3 0
def g_X12_line (x1 : Int32) (x2 : Int32) (x3 : Int32) : GM (Int32) :=
  gb (g_X12_isOrder x1) fun x51 => if x51 = 0 then g_X12_line_19 x1 x2 x3 else gb (g_X12_isItem x2) fun x89 => if x89 = 0 then g_X12_line_19 x1 x2 x3 else g_X12_line_20 x1 x2 x3 1
def g_X12_lose_44 (x1 : Int32) (x2 : Int32) (x3 : Int32) (xs1 : Int32) : GM (Int32) :=
  gb (g_X12_holds xs1) fun x58 => grd fun w59 => if x58 = 0 then gret 0 else gbo ((12 * x1) + x2 : Int32) fun x62 => gix x62 (mL 20) <| gix ((12 * x1) + x2) (mL 20) <| gb (g_X12_less x3 (mA w59 20 ((12 * x1) + x2).toNatClampNeg)) fun x68 => gix x62 (mL 20) <| gst (mSA 20 x62.toNatClampNeg ((mA w59 20 x62.toNatClampNeg) - x68)) <| grd fun w71 => gix ((12 * x1) + x2) (mL 20) <| gret (mA w71 20 ((12 * x1) + x2).toNatClampNeg)
def g_X12_lose_20 (x1 : Int32) (x2 : Int32) (x3 : Int32) (xs0 : Int32) : GM (Int32) :=
  if xs0 = 0 then g_X12_lose_44 x1 x2 x3 1 else gb (g_X12_arePieces x3) fun x55 => if x55 = 0 then g_X12_lose_44 x1 x2 x3 2 else g_X12_lose_44 x1 x2 x3 0
def g_X12_lose_19 (x1 : Int32) (x2 : Int32) (x3 : Int32) : GM (Int32) :=
  g_X12_lose_20 x1 x2 x3 0
def g_X12_lose (x1 : Int32) (x2 : Int32) (x3 : Int32) : GM (Int32) :=
  gb (g_X12_isSlot x1) fun x51 => if x51 = 0 then g_X12_lose_19 x1 x2 x3 else gb (g_X12_isLot x2) fun x75 => if x75 = 0 then g_X12_lose_19 x1 x2 x3 else g_X12_lose_20 x1 x2 x3 1
def g_X12_lot_41 (x1 : Int32) (x2 : Int32) (xs1 : Int32) : GM (Int32) :=
  gb (g_X12_holds xs1) fun x58 => grd fun w59 => if x58 = 0 then gret 0 else gix (mI w59 15) (mL 16) <| gst (mSA 16 (mI w59 15).toNatClampNeg x1) <| grd fun w64 => gix (mI w64 15) (mL 17) <| gst (mSA 17 (mI w64 15).toNatClampNeg x2) <| grd fun w68 => gst (mSI 15 ((mI w68 15) + 1)) <| grd fun w69 => gret ((mI w69 15) - 1)
def g_X12_lot (x1 : Int32) (x2 : Int32) : GM (Int32) :=
  gb (g_X12_isItem x1) fun x51 => if x51 = 0 then g_X12_lot_41 x1 x2 1 else gb (g_X12_isIn x2 0 9999) fun x54 => grd fun w55 => if x54 = 0 then g_X12_lot_41 x1 x2 2 else if (mI w55 15) = 12 then g_X12_lot_41 x1 x2 3 else g_X12_lot_41 x1 x2 0
def g_X12_notice_37 (x1 : Int32) (x2 : Int32) (xs1 : Int32) : GM (Int32) :=
  gb (g_X12_holds xs1) fun x58 => grd fun w59 => if x58 = 0 then gret 0 else gix (mI w59 22) (mL 23) <| gst (mSA 23 (mI w59 22).toNatClampNeg x1) <| grd fun w64 => gix (mI w64 22) (mL 24) <| gst (mSA 24 (mI w64 22).toNatClampNeg x2) <| grd fun w68 => gst (mSI 22 ((mI w68 22) + 1)) <| grd fun w69 => gret ((mI w69 22) - 1)
def g_X12_notice (x1 : Int32) (x2 : Int32) : GM (Int32) :=
  gb (g_X12_isItem x1) fun x51 => if x51 = 0 then g_X12_notice_37 x1 x2 1 else gb (g_X12_arePieces x2) fun x54 => grd fun w55 => if x54 = 0 then g_X12_notice_37 x1 x2 2 else if (mI w55 22) = 8 then g_X12_notice_37 x1 x2 3 else g_X12_notice_37 x1 x2 0
noncomputable def g_X12_others_14 (x1 : Int32) (xs1 : Int32) : GM (Int32) :=
  gb (g_X12_holds xs1) fun x54 => if x54 = 0 then gret 0 else gb (g_X12_cameOf x1 0) fun x57 => gret x57
noncomputable def g_X12_others (x1 : Int32) : GM (Int32) :=
  gb (g_X12_isNotice x1) fun x51 => if x51 = 0 then g_X12_others_14 x1 1 else g_X12_others_14 x1 0
def g_X12_recall_145 : Nat → Int32 → Int32 → Int32 → GM (Int32)
  | 0, _, _, _ => gfail
  | f + 1, x1, x3, x4 =>
    grd fun w => if (mI w 27) ≤ x4 then gret x3 else gix ((12 * x4) + x1) (mL 33) <| gbo (x3 + (mA w 33 ((12 * x4) + x1).toNatClampNeg) : Int32) fun x73 => g_X12_recall_145 f x1 x73 (x4 + 1)
noncomputable def g_X12_recall_88 : Nat → Int32 → Int32 → GM (Int32)
  | 0, _, _ => gfail
  | f + 1, x1, x3 =>
    grd fun w => if (mI w 45) ≤ x3 then gb (g_X12_tidies) fun u68 => g_X12_recall_145 FU x1 0 0 else gb (g_X12_isOn x3) fun x75 => grd fun w76 => if x75 = 0 then g_X12_recall_88 f x1 (x3 + 1) else gix x3 (mL 46) <| if (mA w76 46 x3.toNatClampNeg) = 2 then gix x3 (mL 47) <| if (mA w76 47 x3.toNatClampNeg) = x1 then gb (g_X12_ends x3 3) fun u87 => g_X12_recall_88 f x1 (x3 + 1) else g_X12_recall_88 f x1 (x3 + 1) else g_X12_recall_88 f x1 (x3 + 1)
def g_X12_recall_79 (K46 : Int32 → Int32 → GM (Int32)) (x1 : Int32) (x3 : Int32) (os0 : Nat) (xs1 : Int32) (xs2 : Int32) : GM (Int32) :=
  gmd (isA os0) <| gix xs1 (mL os0) <| gst (mSA os0 xs1.toNatClampNeg xs2) <| K46 x1 (x3 + 1)
noncomputable def g_X12_recall_46 : Nat → Int32 → Int32 → GM (Int32)
  | 0, _, _ => gfail
  | f + 1, x1, x3 =>
    grd fun w => if (mI w 39) ≤ x3 then g_X12_recall_88 FU x1 0 else gix x3 (mL 42) <| if (mA w 42 x3.toNatClampNeg) = x1 then g_X12_recall_79 (g_X12_recall_46 f) x1 x3 43 x3 0 else gix x3 (mL 43) <| g_X12_recall_79 (g_X12_recall_46 f) x1 x3 43 x3 (mA w 43 x3.toNatClampNeg)
noncomputable def g_X12_recall_29 (x1 : Int32) (xs1 : Int32) : GM (Int32) :=
  gb (g_X12_holds xs1) fun x58 => if x58 = 0 then gret 0 else gix x1 (mL 18) <| gst (mSA 18 x1.toNatClampNeg 1) <| g_X12_recall_46 FU x1 0
noncomputable def g_X12_recall (x1 : Int32) : GM (Int32) :=
  gb (g_X12_isLot x1) fun x51 => grd fun w52 => if x51 = 0 then g_X12_recall_29 x1 1 else gix x1 (mL 18) <| if (mA w52 18 x1.toNatClampNeg) = 0 then g_X12_recall_29 x1 0 else g_X12_recall_29 x1 2
def g_X12_receive_58 (x1 : Int32) (x2 : Int32) (x3 : Int32) (xs1 : Int32) : GM (Int32) :=
  gb (g_X12_holds xs1) fun x62 => grd fun w63 => if x62 = 0 then gret 0 else gbo ((12 * x1) + x2 : Int32) fun x66 => gix x66 (mL 26) <| gix x66 (mL 26) <| gst (mSA 26 x66.toNatClampNeg ((mA w63 26 x66.toNatClampNeg) + x3)) <| gb (g_X12_books 18 x2 x3) fun u72 => grd fun w72 => gst (mSI 2 ((mI w72 2) + (2 * x3))) <| grd fun w73 => gix (216 + x2) (mL 19) <| gret (mA w73 19 (216 + x2).toNatClampNeg)
def g_X12_receive_21 (x1 : Int32) (x2 : Int32) (x3 : Int32) (xs0 : Int32) : GM (Int32) :=
  if xs0 = 0 then g_X12_receive_58 x1 x2 x3 1 else gb (g_X12_arePieces x3) fun x55 => grd fun w56 => if x55 = 0 then g_X12_receive_58 x1 x2 x3 2 else gix x1 (mL 25) <| if (mA w56 25 x1.toNatClampNeg) = 0 then g_X12_receive_58 x1 x2 x3 0 else g_X12_receive_58 x1 x2 x3 3
def g_X12_receive_20 (x1 : Int32) (x2 : Int32) (x3 : Int32) : GM (Int32) :=
  g_X12_receive_21 x1 x2 x3 0
def g_X12_receive (x1 : Int32) (x2 : Int32) (x3 : Int32) : GM (Int32) :=
  gb (g_X12_isNotice x1) fun x51 => if x51 = 0 then g_X12_receive_20 x1 x2 x3 else gb (g_X12_isLot x2) fun x77 => if x77 = 0 then g_X12_receive_20 x1 x2 x3 else g_X12_receive_21 x1 x2 x3 1
def g_X12_received_22 (x1 : Int32) (x2 : Int32) (xs1 : Int32) : GM (Int32) :=
  gb (g_X12_holds xs1) fun x54 => grd fun w55 => if x54 = 0 then gret 0 else gix ((12 * x1) + x2) (mL 26) <| gret (mA w55 26 ((12 * x1) + x2).toNatClampNeg)
def g_X12_received_21 (x1 : Int32) (x2 : Int32) : GM (Int32) :=
  g_X12_received_22 x1 x2 1
def g_X12_received (x1 : Int32) (x2 : Int32) : GM (Int32) :=
  gb (g_X12_isNotice x1) fun x51 => if x51 = 0 then g_X12_received_21 x1 x2 else gb (g_X12_isLot x2) fun x60 => if x60 = 0 then g_X12_received_21 x1 x2 else g_X12_received_22 x1 x2 0
def g_X12_roomLeft_15 : Nat → Int32 → Int32 → Int32 → GM (Int32)
  | 0, _, _, _ => gfail
  | f + 1, x1, x2, x3 =>
    grd fun w => if (mI w 15) ≤ x3 then gret x2 else gix ((12 * x1) + x3) (mL 19) <| gix x3 (mL 16) <| gix (mA w 16 x3.toNatClampNeg) (mL 10) <| gbo (x2 - ((mA w 19 ((12 * x1) + x3).toNatClampNeg) * (mA w 10 (mA w 16 x3.toNatClampNeg).toNatClampNeg)) : Int32) fun x67 => g_X12_roomLeft_15 f x1 x67 (x3 + 1)
noncomputable def g_X12_roomLeft (x1 : Int32) : GM (Int32) :=
  grd fun w => gix x1 (mL 5) <| gb (g_X12_roomHeld x1) fun x54 => gbo ((mA w 5 x1.toNatClampNeg) - x54 : Int32) fun x56 => g_X12_roomLeft_15 FU x1 x56 0
noncomputable def g_X12_send_245 : Nat → Int32 → Int32 → Int32 → GM (Int32)
  | 0, _, _, _ => gfail
  | f + 1, x1, x3, x4 =>
    grd fun w => if (mI w 45) ≤ x4 then gb (g_X12_tidies) fun u83 => gret x3 else gb (g_X12_isOn x4) fun x84 => grd fun w85 => if x84 = 0 then g_X12_send_245 f x1 x3 (x4 + 1) else gix x4 (mL 46) <| if (mA w85 46 x4.toNatClampNeg) = 2 then gix x4 (mL 50) <| if ((mA w85 50 x4.toNatClampNeg) / 3) = x1 then gb (g_X12_ends x4 3) fun u96 => g_X12_send_245 f x1 x3 (x4 + 1) else g_X12_send_245 f x1 x3 (x4 + 1) else g_X12_send_245 f x1 x3 (x4 + 1)
def g_X12_send_235 (K196 : Int32 → Int32 → Int32 → GM (Int32)) (x1 : Int32) (x3 : Int32) (x4 : Int32) (os0 : Nat) (xs1 : Int32) (xs2 : Int32) : GM (Int32) :=
  gmd (isA os0) <| gix xs1 (mL os0) <| gst (mSA os0 xs1.toNatClampNeg xs2) <| K196 x1 x3 (x4 + 1)
noncomputable def g_X12_send_196 : Nat → Int32 → Int32 → Int32 → GM (Int32)
  | 0, _, _, _ => gfail
  | f + 1, x1, x3, x4 =>
    grd fun w => if (mI w 39) ≤ x4 then g_X12_send_245 FU x1 x3 0 else gix x4 (mL 40) <| if ((mA w 40 x4.toNatClampNeg) / 3) = x1 then g_X12_send_235 (g_X12_send_196 f) x1 x3 x4 43 x4 0 else gix x4 (mL 43) <| g_X12_send_235 (g_X12_send_196 f) x1 x3 x4 43 x4 (mA w 43 x4.toNatClampNeg)
noncomputable def g_X12_send_122 : Nat → Int32 → Int32 → Int32 → GM (Int32)
  | 0, _, _, _ => gfail
  | f + 1, x1, x3, x4 =>
    grd fun w => if (mI w 15) ≤ x4 then gix x1 (mL 32) <| gst (mSA 32 x1.toNatClampNeg 1) <| g_X12_send_196 FU x1 x3 0 else gix ((12 * (20 + x1)) + x4) (mL 19) <| gbo (mA w 19 ((12 * (20 + x1)) + x4).toNatClampNeg : Int32) fun x113 => gix ((12 * x1) + x4) (mL 33) <| gst (mSA 33 ((12 * x1) + x4).toNatClampNeg x113) <| gb (g_X12_books (20 + x1) x4 (-x113)) fun u119 => gbo (x3 + x113 : Int32) fun x120 => g_X12_send_122 f x1 x120 (x4 + 1)
noncomputable def g_X12_send_70 : Nat → Int32 → Int32 → Int32 → GM (Int32)
  | 0, _, _, _ => gfail
  | f + 1, x1, x3, x4 =>
    grd fun w => gix x1 (mL 35) <| if (mA w 35 x1.toNatClampNeg) ≤ x4 then g_X12_send_122 FU x1 x3 0 else gix x4 (mL 62) <| gix x4 (mL 63) <| gix ((300 * x1) + x4) (mL 34) <| gst (mSA 34 ((300 * x1) + x4).toNatClampNeg ((1000 * (mA w 62 x4.toNatClampNeg)) + (mA w 63 x4.toNatClampNeg))) <| g_X12_send_70 f x1 x3 (x4 + 1)
noncomputable def g_X12_send_29 (x1 : Int32) (xs1 : Int32) : GM (Int32) :=
  gb (g_X12_holds xs1) fun x58 => if x58 = 0 then gret 0 else gb (g_X12_packs x1) fun x62 => gix x1 (mL 35) <| gst (mSA 35 x1.toNatClampNeg x62) <| grd fun w66 => gix x1 (mL 35) <| gst (mSI 2 ((mI w66 2) + (5 * (mA w66 35 x1.toNatClampNeg)))) <| g_X12_send_70 FU x1 0 0
noncomputable def g_X12_send (x1 : Int32) : GM (Int32) :=
  gb (g_X12_isOrder x1) fun x51 => grd fun w52 => if x51 = 0 then g_X12_send_29 x1 1 else gix x1 (mL 32) <| if (mA w52 32 x1.toNatClampNeg) = 0 then g_X12_send_29 x1 0 else g_X12_send_29 x1 2
def g_X12_sent_22 (x1 : Int32) (x2 : Int32) (xs1 : Int32) : GM (Int32) :=
  gb (g_X12_holds xs1) fun x54 => grd fun w55 => if x54 = 0 then gret 0 else gix ((12 * x1) + x2) (mL 33) <| gret (mA w55 33 ((12 * x1) + x2).toNatClampNeg)
def g_X12_sent_21 (x1 : Int32) (x2 : Int32) : GM (Int32) :=
  g_X12_sent_22 x1 x2 1
def g_X12_sent (x1 : Int32) (x2 : Int32) : GM (Int32) :=
  gb (g_X12_isOrder x1) fun x51 => if x51 = 0 then g_X12_sent_21 x1 x2 else gb (g_X12_isLot x2) fun x60 => if x60 = 0 then g_X12_sent_21 x1 x2 else g_X12_sent_22 x1 x2 0
noncomputable def g_X12_shorts_206 : Nat → Int32 → Int32 → Int32 → Int32 → Int32 → GM (Unit)
  | 0, _, _, _, _, _ => gfail
  | f + 1, x1, x2, x4, x5, x6 =>
    grd fun w => if (mI w 45) ≤ x6 then gret () else if x6 = x4 then g_X12_shorts_206 f x1 x2 x4 x5 (x6 + 1) else gb (g_X12_isOn x6) fun x64 => grd fun w65 => if x64 = 0 then g_X12_shorts_206 f x1 x2 x4 x5 (x6 + 1) else gix x6 (mL 46) <| if (mA w65 46 x6.toNatClampNeg) = 1 then gix x6 (mL 48) <| if (mA w65 48 x6.toNatClampNeg) = x1 then gix x6 (mL 47) <| if (mA w65 47 x6.toNatClampNeg) = x2 then gb (g_X12_keeps x6 x5) fun x79 => gbo (x5 - x79 : Int32) fun x81 => g_X12_shorts_206 f x1 x2 x4 x81 (x6 + 1) else g_X12_shorts_206 f x1 x2 x4 x5 (x6 + 1) else g_X12_shorts_206 f x1 x2 x4 x5 (x6 + 1) else g_X12_shorts_206 f x1 x2 x4 x5 (x6 + 1)
noncomputable def g_X12_shorts_87 (K43 : Int32 → Int32 → Int32 → Int32 → Int32 → GM (Unit)) (x1 : Int32) (x2 : Int32) (x4 : Int32) (x5 : Int32) (x6 : Int32) (x7 : Int32) (xs0 : Int32) : GM (Unit) :=
  grd fun w => gix x7 (mL 40) <| gmd (decide (¬ (mI w 39) = 0)) <| if ((mA w 40 x7.toNatClampNeg) / 3) = (x6 / (mI w 39)) then gix x7 (mL 41) <| if (mA w 41 x7.toNatClampNeg) = x1 then gix x7 (mL 42) <| if (mA w 42 x7.toNatClampNeg) = x2 then if xs0 = 0 then K43 x1 x2 x4 x5 (x6 + 1) else gix x7 (mL 43) <| gb (g_X12_less (mA w 43 x7.toNatClampNeg) x5) fun x104 => gix x7 (mL 43) <| gst (mSA 43 x7.toNatClampNeg x104) <| grd fun w108 => gix x7 (mL 43) <| gbo (x5 - (mA w108 43 x7.toNatClampNeg) : Int32) fun x112 => gix x7 (mL 44) <| if (mA w108 44 x7.toNatClampNeg) = (-1) then K43 x1 x2 x4 x112 (x6 + 1) else gix x7 (mL 44) <| gix x7 (mL 43) <| gb (g_X12_keeps (mA w108 44 x7.toNatClampNeg) (mA w108 43 x7.toNatClampNeg)) fun x123 => K43 x1 x2 x4 x112 (x6 + 1) else K43 x1 x2 x4 x5 (x6 + 1) else K43 x1 x2 x4 x5 (x6 + 1) else K43 x1 x2 x4 x5 (x6 + 1)
noncomputable def g_X12_shorts_43 : Nat → Int32 → Int32 → Int32 → Int32 → Int32 → GM (Unit)
  | 0, _, _, _, _, _ => gfail
  | f + 1, x1, x2, x4, x5, x6 =>
    grd fun w => if (8 * (mI w 39)) ≤ x6 then g_X12_shorts_206 FU x1 x2 x4 x5 0 else gmd (decide (¬ (mI w 39) = 0)) <| gbo (x6 - x6 / (mI w 39) * (mI w 39) : Int32) fun x84 => if x4 = (-1) then g_X12_shorts_87 (g_X12_shorts_43 f) x1 x2 x4 x5 x6 x84 1 else gix x84 (mL 44) <| if (mA w 44 x84.toNatClampNeg) = x4 then g_X12_shorts_87 (g_X12_shorts_43 f) x1 x2 x4 x5 x6 x84 0 else g_X12_shorts_87 (g_X12_shorts_43 f) x1 x2 x4 x5 x6 x84 1
noncomputable def g_X12_shorts (x1 : Int32) (x2 : Int32) (x3 : Int32) (x4 : Int32) : GM (Unit) :=
  grd fun w => gix ((12 * x1) + x2) (mL 19) <| gb (g_X12_books x1 x2 (x3 - (mA w 19 ((12 * x1) + x2).toNatClampNeg))) fun u55 => grd fun w55 => if x4 = (-1) then gbo (x3 - 0 : Int32) fun x130 => g_X12_shorts_43 FU x1 x2 x4 x130 0 else gix x4 (mL 51) <| gbo (x3 - (mA w55 51 x4.toNatClampNeg) : Int32) fun x60 => g_X12_shorts_43 FU x1 x2 x4 x60 0
def g_X12_taskAt_14 (x1 : Int32) (xs1 : Int32) : GM (Int32) :=
  gb (g_X12_holds xs1) fun x54 => grd fun w55 => if x54 = 0 then gret 0 else gix x1 (mL 46) <| gix x1 (mL 52) <| gix x1 (mL 51) <| gret (((1000 * (mA w55 46 x1.toNatClampNeg)) + (100 * (mA w55 52 x1.toNatClampNeg))) + (mA w55 51 x1.toNatClampNeg))
def g_X12_taskAt (x1 : Int32) : GM (Int32) :=
  gb (g_X12_isTask x1) fun x51 => if x51 = 0 then g_X12_taskAt_14 x1 1 else g_X12_taskAt_14 x1 0
noncomputable def g_X12_wave_92 : Nat → Int32 → Int32 → Int32 → Int32 → GM (Int32)
  | 0, _, _, _, _ => gfail
  | f + 1, x1, x2, x6, x7 =>
    if 18 ≤ x7 then gret x6 else if x6 ≤ 0 then gret x6 else gb (g_X12_slotAt x7) fun x66 => gb (g_X12_makesPicks x1 x2 x66) fun u69 => g_X12_wave_92 f x1 x2 x6 (x7 + 1)
noncomputable def g_X12_wave_74 (x1 : Int32) (x2 : Int32) (xs1 : Int32) : GM (Int32) :=
  gb (g_X12_holds xs1) fun x59 => if x59 = 0 then gret 0 else gb (g_X12_picks x2) fun x62 => g_X12_wave_92 FU x1 x2 x62 0
noncomputable def g_X12_wave_44 (x1 : Int32) (x2 : Int32) (x3 : Int32) (x4 : Int32) (xs0 : Int32) : GM (Int32) :=
  if x3 = 0 then g_X12_wave_74 x1 x2 1 else if x4 = 0 then g_X12_wave_74 x1 x2 2 else if xs0 = 0 then g_X12_wave_74 x1 x2 3 else g_X12_wave_74 x1 x2 0
noncomputable def g_X12_wave_43 (x1 : Int32) (x2 : Int32) (x3 : Int32) (x4 : Int32) : GM (Int32) :=
  g_X12_wave_44 x1 x2 x3 x4 0
noncomputable def g_X12_wave (x1 : Int32) (x2 : Int32) : GM (Int32) :=
  gb (g_X12_isRobot x1) fun x51 => gb (g_X12_isIn x2 1 255) fun x53 => grd fun w54 => if x51 = 0 then g_X12_wave_43 x1 x2 x51 x53 else if x53 = 0 then g_X12_wave_43 x1 x2 x51 x53 else gb (g_X12_picks x2) fun x72 => if 60 < ((mI w54 45) + x72) then g_X12_wave_43 x1 x2 x51 x53 else g_X12_wave_44 x1 x2 x51 x53 1
def g_X12_where_13 (x1 : Int32) (xs1 : Int32) : GM (Int32) :=
  gb (g_X12_holds xs1) fun x54 => grd fun w55 => if x54 = 0 then gret 0 else gix x1 (mL 55) <| if (mA w55 55 x1.toNatClampNeg) = (-1) then gret (-1) else gix x1 (mL 55) <| gix x1 (mL 56) <| gret ((10 * (mA w55 55 x1.toNatClampNeg)) + (mA w55 56 x1.toNatClampNeg))
def g_X12_where (x1 : Int32) : GM (Int32) :=
  gb (g_X12_isRobot x1) fun x51 => if x51 = 0 then g_X12_where_13 x1 1 else g_X12_where_13 x1 0
def g_X12_boxAt_39 (x1 : Int32) (x2 : Int32) (xs1 : Int32) : GM (Int32) :=
  gb (g_X12_holds xs1) fun x55 => grd fun w56 => if x55 = 0 then gret 0 else gix x1 (mL 32) <| if (mA w56 32 x1.toNatClampNeg) = 0 then gix x2 (mL 62) <| gix x2 (mL 63) <| gret ((1000 * (mA w56 62 x2.toNatClampNeg)) + (mA w56 63 x2.toNatClampNeg)) else gix ((300 * x1) + x2) (mL 34) <| gret (mA w56 34 ((300 * x1) + x2).toNatClampNeg)
def g_X12_boxAt_28 (x1 : Int32) (x2 : Int32) (xs0 : Int32) : GM (Int32) :=
  if xs0 = 0 then g_X12_boxAt_39 x1 x2 1 else g_X12_boxAt_39 x1 x2 0
def g_X12_boxAt_27 (x1 : Int32) (x2 : Int32) : GM (Int32) :=
  g_X12_boxAt_28 x1 x2 0
noncomputable def g_X12_boxAt (x1 : Int32) (x2 : Int32) : GM (Int32) :=
  gb (g_X12_isOrder x1) fun x51 => if x51 = 0 then g_X12_boxAt_27 x1 x2 else gb (g_X12_boxesOf x1) fun x71 => gb (g_X12_isIn x2 0 (x71 - 1)) fun x73 => if x73 = 0 then g_X12_boxAt_27 x1 x2 else g_X12_boxAt_28 x1 x2 1
noncomputable def g_X12_boxes_14 (x1 : Int32) (xs1 : Int32) : GM (Int32) :=
  gb (g_X12_holds xs1) fun x54 => if x54 = 0 then gret 0 else gb (g_X12_boxesOf x1) fun x57 => gret x57
noncomputable def g_X12_boxes (x1 : Int32) : GM (Int32) :=
  gb (g_X12_isOrder x1) fun x51 => if x51 = 0 then g_X12_boxes_14 x1 1 else g_X12_boxes_14 x1 0
def g_X12_count_144 (x1 : Int32) (x2 : Int32) (x3 : Int32) (x4 : Int32) (x5 : Int32) : GM (Int32) :=
  grd fun w => if x5 = 0 then gret x4 else gix x3 (mL 19) <| gb (g_X12_books x1 x2 (x4 - (mA w 19 x3.toNatClampNeg))) fun u81 => gret x4
noncomputable def g_X12_count_111 (x1 : Int32) (x2 : Int32) (x3 : Int32) (x4 : Int32) (x5 : Int32) (os0 : Nat) (xs1 : Int32) (xs2 : Int32) : GM (Int32) :=
  gmd (isA os0) <| gix xs1 (mL os0) <| gst (mSA os0 xs1.toNatClampNeg xs2) <| grd fun w74 => if x5 = 0 then g_X12_count_144 x1 x2 x3 x4 x5 else gix x3 (mL 19) <| if (mA w74 19 x3.toNatClampNeg) ≤ x4 then g_X12_count_144 x1 x2 x3 x4 x5 else gb (g_X12_shorts x1 x2 x4 (-1)) fun u87 => gb (g_X12_tidies) fun u89 => gret x4
noncomputable def g_X12_count_82 (x1 : Int32) (x2 : Int32) (x3 : Int32) (x4 : Int32) (xs0 : Int32) : GM (Int32) :=
  grd fun w => gix x3 (mL 19) <| if x4 = (mA w 19 x3.toNatClampNeg) then g_X12_count_111 x1 x2 x3 x4 xs0 21 x3 (-1) else if xs0 = 0 then g_X12_count_111 x1 x2 x3 x4 xs0 21 x3 x4 else g_X12_count_111 x1 x2 x3 x4 xs0 21 x3 (-1)
noncomputable def g_X12_count_81 (x1 : Int32) (x2 : Int32) (x3 : Int32) (x4 : Int32) : GM (Int32) :=
  g_X12_count_82 x1 x2 x3 x4 0
noncomputable def g_X12_count_21 (x1 : Int32) (x2 : Int32) (xs1 : Int32) : GM (Int32) :=
  gb (g_X12_holds xs1) fun x54 => grd fun w55 => if x54 = 0 then gret 0 else gbo ((12 * x1) + x2 : Int32) fun x57 => gix x57 (mL 20) <| gbo (mA w55 20 x57.toNatClampNeg : Int32) fun x61 => gst (mSI 2 ((mI w55 2) + 6)) <| grd fun w62 => gix x57 (mL 19) <| if x61 = (mA w62 19 x57.toNatClampNeg) then g_X12_count_81 x1 x2 x57 x61 else gix x57 (mL 21) <| if (mA w62 21 x57.toNatClampNeg) = x61 then g_X12_count_82 x1 x2 x57 x61 1 else g_X12_count_81 x1 x2 x57 x61
noncomputable def g_X12_count_20 (x1 : Int32) (x2 : Int32) : GM (Int32) :=
  g_X12_count_21 x1 x2 1
noncomputable def g_X12_count (x1 : Int32) (x2 : Int32) : GM (Int32) :=
  gb (g_X12_isSlot x1) fun x51 => if x51 = 0 then g_X12_count_20 x1 x2 else gb (g_X12_isLot x2) fun x95 => if x95 = 0 then g_X12_count_20 x1 x2 else g_X12_count_21 x1 x2 0
noncomputable def g_X12_does_195 (x1 : Int32) (x2 : Int32) : GM (Unit) :=
  grd fun w => gix x1 (mL 46) <| if (mA w 46 x1.toNatClampNeg) = 2 then gix x1 (mL 48) <| gbo ((12 * (mA w 48 x1.toNatClampNeg)) + x2 : Int32) fun x92 => gix x92 (mL 20) <| gix x1 (mL 51) <| gix x92 (mL 20) <| gst (mSA 20 x92.toNatClampNeg ((mA w 20 x92.toNatClampNeg) - (mA w 51 x1.toNatClampNeg))) <| grd fun w99 => gix x1 (mL 50) <| gbo (mA w99 50 x1.toNatClampNeg : Int32) fun x104 => gix x104 (mL 38) <| gix x1 (mL 51) <| gix x104 (mL 38) <| gst (mSA 38 x104.toNatClampNeg ((mA w99 38 x104.toNatClampNeg) + (mA w99 51 x1.toNatClampNeg))) <| grd fun w111 => gix x1 (mL 51) <| gb (g_X12_moves x1 (mA w111 51 x1.toNatClampNeg)) fun u116 => gret () else gix x1 (mL 51) <| if (mA w 51 x1.toNatClampNeg) = 0 then gb (g_X12_ends x1 3) fun u87 => gret () else gix x1 (mL 54) <| gst (mSA 54 x1.toNatClampNeg 1) <| gret ()
noncomputable def g_X12_does_144 (x1 : Int32) (x2 : Int32) : GM (Unit) :=
  grd fun w => gix x1 (mL 48) <| gix ((12 * (mA w 48 x1.toNatClampNeg)) + x2) (mL 20) <| gbo (mA w 20 ((12 * (mA w 48 x1.toNatClampNeg)) + x2).toNatClampNeg : Int32) fun x69 => gix x1 (mL 51) <| if (mA w 51 x1.toNatClampNeg) ≤ x69 then g_X12_does_195 x1 x2 else gix x1 (mL 51) <| gst (mSA 51 x1.toNatClampNeg x69) <| grd fun w120 => gix x1 (mL 48) <| gb (g_X12_shorts (mA w120 48 x1.toNatClampNeg) x2 x69 x1) fun u125 => gb (g_X12_tidies) fun u127 => g_X12_does_195 x1 x2
noncomputable def g_X12_does (x1 : Int32) : GM (Unit) :=
  grd fun w => gix x1 (mL 47) <| gbo (mA w 47 x1.toNatClampNeg : Int32) fun x54 => gix x1 (mL 46) <| if (mA w 46 x1.toNatClampNeg) = 0 then gix x1 (mL 49) <| gbo ((12 * (mA w 49 x1.toNatClampNeg)) + x54 : Int32) fun x167 => gix x167 (mL 20) <| gix x1 (mL 51) <| gix x167 (mL 20) <| gst (mSA 20 x167.toNatClampNeg ((mA w 20 x167.toNatClampNeg) + (mA w 51 x1.toNatClampNeg))) <| gb (g_X12_moves x1 3) fun u176 => gret () else gix x1 (mL 46) <| if (mA w 46 x1.toNatClampNeg) = 1 then gix x1 (mL 54) <| if (mA w 54 x1.toNatClampNeg) = 0 then g_X12_does_144 x1 x54 else gix x1 (mL 51) <| gix x1 (mL 48) <| gix ((12 * (mA w 48 x1.toNatClampNeg)) + x54) (mL 20) <| gb (g_X12_less (mA w 51 x1.toNatClampNeg) (mA w 20 ((12 * (mA w 48 x1.toNatClampNeg)) + x54).toNatClampNeg)) fun x141 => grd fun w142 => gix x1 (mL 48) <| gbo ((12 * (mA w142 48 x1.toNatClampNeg)) + x54 : Int32) fun x147 => gix x147 (mL 20) <| gix x147 (mL 20) <| gst (mSA 20 x147.toNatClampNeg ((mA w142 20 x147.toNatClampNeg) - x141)) <| grd fun w151 => gix x1 (mL 49) <| gbo ((12 * (mA w151 49 x1.toNatClampNeg)) + x54 : Int32) fun x156 => gix x156 (mL 20) <| gix x156 (mL 20) <| gst (mSA 20 x156.toNatClampNeg ((mA w151 20 x156.toNatClampNeg) + x141)) <| gb (g_X12_moves x1 4) fun u162 => gret () else g_X12_does_144 x1 x54
def g_X12_face_136 (x1 : Int32) (x2 : Int32) (x3 : Int32) (x4 : Int32) (xs1 : Int32) : GM (Unit) :=
  gb (g_X12_holds xs1) fun x62 => if x62 = 0 then gret () else gix x1 (mL 6) <| gst (mSA 6 x1.toNatClampNeg x2) <| gix x1 (mL 7) <| gst (mSA 7 x1.toNatClampNeg x3) <| gix x1 (mL 8) <| gst (mSA 8 x1.toNatClampNeg x4) <| gret ()
def g_X12_face_105 (x1 : Int32) (x2 : Int32) (x3 : Int32) (x4 : Int32) (x5 : Int32) (x7 : Int32) (xs0 : Int32) : GM (Unit) :=
  if x5 = 0 then g_X12_face_136 x1 x2 x3 x4 1 else if x7 = 0 then g_X12_face_136 x1 x2 x3 x4 2 else if xs0 = 0 then g_X12_face_136 x1 x2 x3 x4 3 else g_X12_face_136 x1 x2 x3 x4 0
def g_X12_face_104 (x1 : Int32) (x2 : Int32) (x3 : Int32) (x4 : Int32) (x5 : Int32) (x7 : Int32) : GM (Unit) :=
  g_X12_face_105 x1 x2 x3 x4 x5 x7 0
noncomputable def g_X12_face_65 (x1 : Int32) (x2 : Int32) (x3 : Int32) (x4 : Int32) (x5 : Int32) (xs0 : Int32) : GM (Unit) :=
  if x5 = 0 then g_X12_face_104 x1 x2 x3 x4 x5 xs0 else gb (g_X12_isEmpty x1) fun x77 => grd fun w78 => if x77 = 0 then g_X12_face_104 x1 x2 x3 x4 x5 xs0 else if x2 = (-1) then g_X12_face_105 x1 x2 x3 x4 x5 xs0 1 else gix x2 (mL 9) <| gix x1 (mL 4) <| if (mA w78 9 x2.toNatClampNeg) = (mA w78 4 x1.toNatClampNeg) then g_X12_face_105 x1 x2 x3 x4 x5 xs0 1 else g_X12_face_104 x1 x2 x3 x4 x5 xs0
noncomputable def g_X12_face_64 (x1 : Int32) (x2 : Int32) (x3 : Int32) (x4 : Int32) (x5 : Int32) : GM (Unit) :=
  g_X12_face_65 x1 x2 x3 x4 x5 0
noncomputable def g_X12_face_37 (x1 : Int32) (x2 : Int32) (x3 : Int32) (x4 : Int32) (x5 : Int32) (xs0 : Int32) : GM (Unit) :=
  gb (g_X12_isIn x3 0 xs0) fun x55 => if x55 = 0 then g_X12_face_64 x1 x2 x3 x4 x5 else gb (g_X12_isIn x4 x3 xs0) fun x88 => if x88 = 0 then g_X12_face_64 x1 x2 x3 x4 x5 else g_X12_face_65 x1 x2 x3 x4 x5 1
noncomputable def g_X12_face_24 (x1 : Int32) (x2 : Int32) (x3 : Int32) (x4 : Int32) (xs0 : Int32) : GM (Unit) :=
  if x2 = (-1) then g_X12_face_37 x1 x2 x3 x4 xs0 0 else g_X12_face_37 x1 x2 x3 x4 xs0 99
noncomputable def g_X12_face_23 (x1 : Int32) (x2 : Int32) (x3 : Int32) (x4 : Int32) : GM (Unit) :=
  g_X12_face_24 x1 x2 x3 x4 0
noncomputable def g_X12_face (x1 : Int32) (x2 : Int32) (x3 : Int32) (x4 : Int32) : GM (Unit) :=
  gb (g_X12_isSlot x1) fun x51 => if x51 = 0 then g_X12_face_23 x1 x2 x3 x4 else if x2 = (-1) then g_X12_face_24 x1 x2 x3 x4 1 else gb (g_X12_isItem x2) fun x92 => if x92 = 0 then g_X12_face_23 x1 x2 x3 x4 else g_X12_face_24 x1 x2 x3 x4 1
noncomputable def g_X12_free (x1 : Int32) (x2 : Int32) : GM (Int32) :=
  gb (g_X12_isAsked x1 18 x2) fun x51 => if x51 = 0 then gret 0 else gb (g_X12_freeAt x1 x2) fun x54 => gret x54
noncomputable def g_X12_holdsFor_219 (K33 : Int32 → Int32 → Int32 → Int32 → Int32 → Int32 → GM (Int32)) (x1 : Int32) (x3 : Int32) (x4 : Int32) (x5 : Int32) (x6 : Int32) (x7 : Int32) : GM (Int32) :=
  gb (g_X12_nextLot x4 x7) fun x69 => K33 x1 x3 x4 x5 x6 x69
noncomputable def g_X12_holdsFor_117 (K33 : Int32 → Int32 → Int32 → Int32 → Int32 → Int32 → GM (Int32)) (K70 : Int32 → Int32 → Int32 → Int32 → Int32 → Int32 → Int32 → Int32 → GM (Int32)) (x1 : Int32) (x3 : Int32) (x4 : Int32) (x5 : Int32) (x6 : Int32) (x7 : Int32) (x8 : Int32) (x9 : Int32) (x10 : Int32) (xs0 : Int32) (xs1 : Int32) : GM (Int32) :=
  if xs0 = xs1 then gb (g_X12_freeAt x10 x7) fun x79 => gb (g_X12_less x79 (x5 - x6)) fun x81 => grd fun w82 => if x81 ≤ 0 then K70 x1 x3 x4 x5 x6 x7 x8 (x9 + 1) else gix (mI w82 39) (mL 40) <| gst (mSA 40 (mI w82 39).toNatClampNeg x3) <| grd fun w87 => gix (mI w87 39) (mL 41) <| gst (mSA 41 (mI w87 39).toNatClampNeg x10) <| grd fun w91 => gix (mI w91 39) (mL 42) <| gst (mSA 42 (mI w91 39).toNatClampNeg x7) <| grd fun w95 => gix (mI w95 39) (mL 43) <| gst (mSA 43 (mI w95 39).toNatClampNeg x81) <| grd fun w99 => gix (mI w99 39) (mL 44) <| gst (mSA 44 (mI w99 39).toNatClampNeg (-1)) <| grd fun w103 => gst (mSI 39 ((mI w103 39) + 1)) <| gbo (x6 + x81 : Int32) fun x105 => K70 x1 x3 x4 x5 x105 x7 x8 (x9 + 1) else K70 x1 x3 x4 x5 x6 x7 x8 (x9 + 1)
noncomputable def g_X12_holdsFor_101 (K33 : Int32 → Int32 → Int32 → Int32 → Int32 → Int32 → GM (Int32)) (K70 : Int32 → Int32 → Int32 → Int32 → Int32 → Int32 → Int32 → Int32 → GM (Int32)) (x1 : Int32) (x3 : Int32) (x4 : Int32) (x5 : Int32) (x6 : Int32) (x7 : Int32) (x8 : Int32) (x9 : Int32) (x10 : Int32) (xs0 : Int32) : GM (Int32) :=
  grd fun w => gix x10 (mL 6) <| if (mA w 6 x10.toNatClampNeg) = (-1) then g_X12_holdsFor_117 K33 K70 x1 x3 x4 x5 x6 x7 x8 x9 x10 xs0 0 else g_X12_holdsFor_117 K33 K70 x1 x3 x4 x5 x6 x7 x8 x9 x10 xs0 1
noncomputable def g_X12_holdsFor_70 (K33 : Int32 → Int32 → Int32 → Int32 → Int32 → Int32 → GM (Int32)) : Nat → Int32 → Int32 → Int32 → Int32 → Int32 → Int32 → Int32 → Int32 → GM (Int32)
  | 0, _, _, _, _, _, _, _, _ => gfail
  | f + 1, x1, x3, x4, x5, x6, x7, x8, x9 =>
    if 36 ≤ x9 then g_X12_holdsFor_219 K33 x1 x3 x4 x5 x6 x7 else if x8 = 0 then g_X12_holdsFor_219 K33 x1 x3 x4 x5 x6 x7 else gbo (x9 - x9 / 18 * 18 : Int32) fun x72 => if 18 ≤ x9 then g_X12_holdsFor_101 K33 (g_X12_holdsFor_70 K33 f) x1 x3 x4 x5 x6 x7 x8 x9 x72 0 else g_X12_holdsFor_101 K33 (g_X12_holdsFor_70 K33 f) x1 x3 x4 x5 x6 x7 x8 x9 x72 1
noncomputable def g_X12_holdsFor_33 : Nat → Int32 → Int32 → Int32 → Int32 → Int32 → Int32 → GM (Int32)
  | 0, _, _, _, _, _, _ => gfail
  | f + 1, x1, x3, x4, x5, x6, x7 =>
    grd fun w => if x7 = (-1) then gret x6 else gix x7 (mL 17) <| gix x1 (mL 30) <| if (mA w 17 x7.toNatClampNeg) < ((mI w 1) + (mA w 30 x1.toNatClampNeg)) then g_X12_holdsFor_70 (g_X12_holdsFor_33 f) FU x1 x3 x4 x5 x6 x7 0 0 else g_X12_holdsFor_70 (g_X12_holdsFor_33 f) FU x1 x3 x4 x5 x6 x7 1 0
noncomputable def g_X12_holdsFor (x1 : Int32) (x2 : Int32) : GM (Int32) :=
  grd fun w => gbo ((3 * x1) + x2 : Int32) fun x51 => gix x51 (mL 36) <| gbo (mA w 36 x51.toNatClampNeg : Int32) fun x55 => gb (g_X12_lacking x51) fun x56 => gb (g_X12_nextLot x55 (-1)) fun x58 => g_X12_holdsFor_33 FU x1 x51 x55 x56 0 x58
noncomputable def g_X12_isBarredAt_52 (x1 : Int32) (x2 : Int32) (x4 : Int32) : GM (Int32) :=
  if x4 = 0 then gret 0 else gb (g_X12_isBarredIn (x1 + 1) x2) fun x58 => if x58 = 0 then gret 0 else gret 1
noncomputable def g_X12_isBarredAt_26 (x1 : Int32) (x2 : Int32) (x3 : Int32) (xs0 : Int32) : GM (Int32) :=
  gb (g_X12_isBarredIn x1 x2) fun x53 => if x53 = 0 then if x3 = 0 then g_X12_isBarredAt_52 x1 x2 xs0 else gb (g_X12_isBarredIn (x1 - 1) x2) fun x61 => if x61 = 0 then g_X12_isBarredAt_52 x1 x2 xs0 else gret 1 else gret 1
noncomputable def g_X12_isBarredAt_12 (x1 : Int32) (x2 : Int32) (xs0 : Int32) : GM (Int32) :=
  if 5 ≤ (x1 - x1 / 6 * 6) then g_X12_isBarredAt_26 x1 x2 xs0 0 else g_X12_isBarredAt_26 x1 x2 xs0 1
noncomputable def g_X12_isBarredAt (x1 : Int32) (x2 : Int32) : GM (Int32) :=
  if (x1 - x1 / 6 * 6) ≤ 0 then g_X12_isBarredAt_12 x1 x2 0 else g_X12_isBarredAt_12 x1 x2 1
def g_X12_refills_225 (x7 : Int32) : GM (Int32) :=
  if x7 ≤ 0 then gret 0 else gret 1
def g_X12_refills_203 (x1 : Int32) (x4 : Int32) (x5 : Int32) (xs0 : Int32) : GM (Int32) :=
  if xs0 ≤ 0 then g_X12_refills_225 xs0 else gb (g_X12_makes 1 x4 x5 x1 (-1) xs0) fun x94 => g_X12_refills_225 xs0
noncomputable def g_X12_refills_145 (K106 : Int32 → Int32 → Int32 → Int32 → GM (Int32)) (K115 : Int32 → Int32 → Int32 → Int32 → Int32 → GM (Int32)) (x1 : Int32) (x2 : Int32) (x3 : Int32) (x4 : Int32) (x5 : Int32) (xs0 : Int32) : GM (Int32) :=
  grd fun w => if xs0 ≤ 0 then K115 x1 x2 x3 x4 (x5 + 1) else gix x1 (mL 8) <| gb (g_X12_less xs0 ((mA w 8 x1.toNatClampNeg) - x3)) fun x77 => gb (g_X12_roomLeft x1) fun x79 => grd fun w80 => gix x2 (mL 10) <| gmd (decide (¬ (mA w80 10 x2.toNatClampNeg) = 0)) <| gb (g_X12_less x77 (x79 / (mA w80 10 x2.toNatClampNeg))) fun x85 => grd fun w86 => if 0 ≤ x85 then gix x2 (mL 13) <| gmd (decide (¬ (mA w86 13 x2.toNatClampNeg) = 0)) <| g_X12_refills_203 x1 x4 x5 (x85 - (x85 - x85 / (mA w86 13 x2.toNatClampNeg) * (mA w86 13 x2.toNatClampNeg))) else g_X12_refills_203 x1 x4 x5 0
noncomputable def g_X12_refills_115 (K106 : Int32 → Int32 → Int32 → Int32 → GM (Int32)) : Nat → Int32 → Int32 → Int32 → Int32 → Int32 → GM (Int32)
  | 0, _, _, _, _, _ => gfail
  | f + 1, x1, x2, x3, x4, x5 =>
    grd fun w => if 18 ≤ x5 then gb (g_X12_nextLot x2 x4) fun x67 => K106 x1 x2 x3 x67 else gix x5 (mL 6) <| if (mA w 6 x5.toNatClampNeg) = (-1) then gb (g_X12_freeAt x5 x4) fun x96 => g_X12_refills_145 K106 (g_X12_refills_115 K106 f) x1 x2 x3 x4 x5 x96 else g_X12_refills_145 K106 (g_X12_refills_115 K106 f) x1 x2 x3 x4 x5 0
noncomputable def g_X12_refills_106 : Nat → Int32 → Int32 → Int32 → Int32 → GM (Int32)
  | 0, _, _, _, _ => gfail
  | f + 1, x1, x2, x3, x4 =>
    if x4 = (-1) then gret 0 else g_X12_refills_115 (g_X12_refills_106 f) FU x1 x2 x3 x4 0
noncomputable def g_X12_refills_17 : Nat → Int32 → Int32 → Int32 → Int32 → GM (Int32)
  | 0, _, _, _, _ => gfail
  | f + 1, x1, x2, x3, x4 =>
    grd fun w => if (mI w 45) ≤ x4 then gix x1 (mL 7) <| if (mA w 7 x1.toNatClampNeg) ≤ x3 then gret 0 else if (mI w 45) = 60 then gret 0 else gb (g_X12_nextLot x2 (-1)) fun x63 => g_X12_refills_106 FU x1 x2 x3 x63 else gb (g_X12_isOn x4) fun x100 => grd fun w101 => if x100 = 0 then gbo (x3 + 0 : Int32) fun x103 => g_X12_refills_17 f x1 x2 x103 (x4 + 1) else gix x4 (mL 46) <| if (mA w101 46 x4.toNatClampNeg) = 1 then gix x4 (mL 49) <| if (mA w101 49 x4.toNatClampNeg) = x1 then gix x4 (mL 51) <| gbo (x3 + (mA w101 51 x4.toNatClampNeg) : Int32) fun x117 => g_X12_refills_17 f x1 x2 x117 (x4 + 1) else gbo (x3 + 0 : Int32) fun x113 => g_X12_refills_17 f x1 x2 x113 (x4 + 1) else gbo (x3 + 0 : Int32) fun x108 => g_X12_refills_17 f x1 x2 x108 (x4 + 1)
noncomputable def g_X12_refills (x1 : Int32) : GM (Int32) :=
  grd fun w => gix x1 (mL 6) <| gbo (mA w 6 x1.toNatClampNeg : Int32) fun x54 => gb (g_X12_itemIn x1 x54) fun x55 => g_X12_refills_17 FU x1 x54 x55 0
noncomputable def g_X12_room_13 (x1 : Int32) (xs1 : Int32) : GM (Int32) :=
  gb (g_X12_holds xs1) fun x54 => if x54 = 0 then gret 0 else gb (g_X12_roomLeft x1) fun x57 => gret x57
noncomputable def g_X12_room (x1 : Int32) : GM (Int32) :=
  gb (g_X12_isSlot x1) fun x51 => if x51 = 0 then g_X12_room_13 x1 1 else g_X12_room_13 x1 0
def g_X12_slot_63 (x1 : Int32) (x2 : Int32) (x3 : Int32) (xs1 : Int32) : GM (Unit) :=
  gb (g_X12_holds xs1) fun x57 => if x57 = 0 then gret () else gix x1 (mL 4) <| gst (mSA 4 x1.toNatClampNeg x2) <| gix x1 (mL 5) <| gst (mSA 5 x1.toNatClampNeg x3) <| gret ()
noncomputable def g_X12_slot (x1 : Int32) (x2 : Int32) (x3 : Int32) : GM (Unit) :=
  gb (g_X12_isSlot x1) fun x51 => if x51 = 0 then g_X12_slot_63 x1 x2 x3 1 else gb (g_X12_isIn x2 0 2) fun x54 => if x54 = 0 then g_X12_slot_63 x1 x2 x3 2 else gb (g_X12_isIn x3 1 200) fun x68 => if x68 = 0 then g_X12_slot_63 x1 x2 x3 2 else gb (g_X12_isEmpty x1) fun x71 => grd fun w72 => if x71 = 0 then g_X12_slot_63 x1 x2 x3 3 else gix x1 (mL 6) <| if (mA w72 6 x1.toNatClampNeg) = (-1) then g_X12_slot_63 x1 x2 x3 0 else g_X12_slot_63 x1 x2 x3 3
def g_X12_stock (x1 : Int32) (x2 : Int32) : GM (Int32) :=
  gb (g_X12_isAsked x1 27 x2) fun x51 => grd fun w52 => if x51 = 0 then gret 0 else gix ((12 * x1) + x2) (mL 19) <| gret (mA w52 19 ((12 * x1) + x2).toNatClampNeg)
def g_X12_stockAnew (x1 : Int32) (x2 : Int32) : GM (Int32) :=
  gb (g_X12_isAsked x1 27 x2) fun x51 => grd fun w52 => if x51 = 0 then gret 0 else gix ((12 * x1) + x2) (mL 19) <| gret (mA w52 19 ((12 * x1) + x2).toNatClampNeg)
noncomputable def g_X12_allocates_13 : Nat → Int32 → Int32 → Int32 → Int32 → Int32 → GM (Int32)
  | 0, _, _, _, _, _ => gfail
  | f + 1, x1, x2, x3, x4, x5 =>
    grd fun w => gix x1 (mL 31) <| if (mA w 31 x1.toNatClampNeg) ≤ x5 then gix x1 (mL 29) <| if (mA w 29 x1.toNatClampNeg) = 0 then gret x2 else if x4 = 0 then gret x2 else gst (mSI 39 x3) <| gret 0 else gb (g_X12_holdsFor x1 x5) fun x62 => gbo (x2 + x62 : Int32) fun x64 => if x4 = 0 then gb (g_X12_lacking ((3 * x1) + x5)) fun x66 => if x66 ≤ 0 then g_X12_allocates_13 f x1 x64 x3 0 (x5 + 1) else g_X12_allocates_13 f x1 x64 x3 1 (x5 + 1) else g_X12_allocates_13 f x1 x64 x3 1 (x5 + 1)
noncomputable def g_X12_allocates (x1 : Int32) : GM (Int32) :=
  grd fun w => gbo (mI w 39 : Int32) fun x51 => g_X12_allocates_13 FU x1 0 x51 0 0
def g_X12_goesTo_65 (os0 : Nat) (xs1 : Int32) (xs2 : Int32) (xs3 : Int32) : GM (Unit) :=
  gmd (isA os0) <| gix xs1 (mL os0) <| gst (mSA os0 xs1.toNatClampNeg (xs2 + xs3)) <| gret ()
noncomputable def g_X12_goesTo (x1 : Int32) (x2 : Int32) (x3 : Int32) : GM (Unit) :=
  grd fun w => gbo (x3 / 6 : Int32) fun x51 => gbo (x3 - x3 / 6 * 6 : Int32) fun x52 => gix x1 (mL 55) <| if (mA w 55 x1.toNatClampNeg) = x51 then gix x1 (mL 56) <| if (mA w 56 x1.toNatClampNeg) = x52 then gb (g_X12_does x2) fun u87 => gret () else gix x1 (mL 56) <| gix x1 (mL 56) <| if x52 ≤ (mA w 56 x1.toNatClampNeg) then g_X12_goesTo_65 56 x1 (mA w 56 x1.toNatClampNeg) (-1) else g_X12_goesTo_65 56 x1 (mA w 56 x1.toNatClampNeg) 1 else gb (g_X12_isHeldByOther x1 x51) fun x57 => if x57 = 0 then gix x1 (mL 55) <| gst (mSA 55 x1.toNatClampNeg x51) <| gix x1 (mL 56) <| gst (mSA 56 x1.toNatClampNeg 0) <| gret () else gix x1 (mL 57) <| gst (mSA 57 x1.toNatClampNeg x51) <| gret ()
noncomputable def g_X12_refill_9 : Nat → Int32 → Int32 → GM (Int32)
  | 0, _, _ => gfail
  | f + 1, x1, x2 =>
    grd fun w => if 18 ≤ x2 then gret x1 else gix x2 (mL 6) <| if (mA w 6 x2.toNatClampNeg) = (-1) then gbo (x1 + 0 : Int32) fun x57 => g_X12_refill_9 f x57 (x2 + 1) else gb (g_X12_refills x2) fun x58 => if x58 = 0 then gbo (x1 + 0 : Int32) fun x61 => g_X12_refill_9 f x61 (x2 + 1) else gbo (x1 + 1 : Int32) fun x62 => g_X12_refill_9 f x62 (x2 + 1)
noncomputable def g_X12_refill  : GM (Int32) :=
  gst (mSI 0 0) <| g_X12_refill_9 FU 0 0
def g_X12_slotFor_162 (K16 : Int32 → Int32 → Int32 → Int32 → Int32 → Int32 → GM (Int32)) (x1 : Int32) (x2 : Int32) (x4 : Int32) (x5 : Int32) (x6 : Int32) (x10 : Int32) (xs0 : Int32) : GM (Int32) :=
  if xs0 = x6 then K16 x1 x2 xs0 x10 x5 (x6 + 1) else K16 x1 x2 xs0 x4 x5 (x6 + 1)
def g_X12_slotFor_161 (K16 : Int32 → Int32 → Int32 → Int32 → Int32 → Int32 → GM (Int32)) (x1 : Int32) (x2 : Int32) (x3 : Int32) (x4 : Int32) (x5 : Int32) (x6 : Int32) (x10 : Int32) : GM (Int32) :=
  g_X12_slotFor_162 K16 x1 x2 x4 x5 x6 x10 x3
def g_X12_slotFor_126 (K16 : Int32 → Int32 → Int32 → Int32 → Int32 → Int32 → GM (Int32)) (x1 : Int32) (x2 : Int32) (x3 : Int32) (x4 : Int32) (x5 : Int32) (x6 : Int32) (x7 : Int32) (x8 : Int32) (xs0 : Int32) : GM (Int32) :=
  gbo ((1000 * xs0) + x7 : Int32) fun x69 => if x8 = 0 then g_X12_slotFor_161 K16 x1 x2 x3 x4 x5 x6 x69 else if x3 = (-1) then g_X12_slotFor_162 K16 x1 x2 x4 x5 x6 x69 x6 else if x4 ≤ x69 then g_X12_slotFor_161 K16 x1 x2 x3 x4 x5 x6 x69 else g_X12_slotFor_162 K16 x1 x2 x4 x5 x6 x69 x6
noncomputable def g_X12_slotFor_89 (K16 : Int32 → Int32 → Int32 → Int32 → Int32 → Int32 → GM (Int32)) (x1 : Int32) (x2 : Int32) (x3 : Int32) (x4 : Int32) (x5 : Int32) (x6 : Int32) (x7 : Int32) (xs0 : Int32) : GM (Int32) :=
  grd fun w => gix ((12 * x6) + x1) (mL 19) <| if (mA w 19 ((12 * x6) + x1).toNatClampNeg) ≤ 0 then gb (g_X12_itemIn x6 x5) fun x66 => if x66 ≤ 0 then g_X12_slotFor_126 K16 x1 x2 x3 x4 x5 x6 x7 xs0 2 else g_X12_slotFor_126 K16 x1 x2 x3 x4 x5 x6 x7 xs0 1 else g_X12_slotFor_126 K16 x1 x2 x3 x4 x5 x6 x7 xs0 0
noncomputable def g_X12_slotFor_88 (K16 : Int32 → Int32 → Int32 → Int32 → Int32 → Int32 → GM (Int32)) (x1 : Int32) (x2 : Int32) (x3 : Int32) (x4 : Int32) (x5 : Int32) (x6 : Int32) (x7 : Int32) : GM (Int32) :=
  g_X12_slotFor_89 K16 x1 x2 x3 x4 x5 x6 x7 0
noncomputable def g_X12_slotFor_16 : Nat → Int32 → Int32 → Int32 → Int32 → Int32 → Int32 → GM (Int32)
  | 0, _, _, _, _, _, _ => gfail
  | f + 1, x1, x2, x3, x4, x5, x6 =>
    if 18 ≤ x6 then gret x3 else gb (g_X12_roomLeft x6) fun x56 => grd fun w57 => gix x6 (mL 6) <| if (mA w57 6 x6.toNatClampNeg) = (-1) then gix x6 (mL 4) <| gix x5 (mL 9) <| if (mA w57 4 x6.toNatClampNeg) = (mA w57 9 x5.toNatClampNeg) then gix x5 (mL 10) <| if x56 < (x2 * (mA w57 10 x5.toNatClampNeg)) then g_X12_slotFor_88 (g_X12_slotFor_16 f) x1 x2 x3 x4 x5 x6 x56 else gb (g_X12_isBarredAt x6 x5) fun x85 => if x85 = 0 then g_X12_slotFor_89 (g_X12_slotFor_16 f) x1 x2 x3 x4 x5 x6 x56 1 else g_X12_slotFor_88 (g_X12_slotFor_16 f) x1 x2 x3 x4 x5 x6 x56 else g_X12_slotFor_88 (g_X12_slotFor_16 f) x1 x2 x3 x4 x5 x6 x56 else g_X12_slotFor_88 (g_X12_slotFor_16 f) x1 x2 x3 x4 x5 x6 x56
noncomputable def g_X12_slotFor (x1 : Int32) (x2 : Int32) : GM (Int32) :=
  grd fun w => gix x1 (mL 16) <| gbo (mA w 16 x1.toNatClampNeg : Int32) fun x54 => g_X12_slotFor_16 FU x1 x2 (-1) 0 x54 0
noncomputable def g_X12_allocate_16 (K10 : Int32 → Int32 → GM (Int32)) : Nat → Int32 → Int32 → Int32 → GM (Int32)
  | 0, _, _, _ => gfail
  | f + 1, x1, x2, x3 =>
    grd fun w => if (mI w 27) ≤ x3 then K10 x1 (x2 + (-1)) else gix x3 (mL 32) <| if (mA w 32 x3.toNatClampNeg) = 0 then gix x3 (mL 28) <| if (mA w 28 x3.toNatClampNeg) = x2 then gb (g_X12_allocates x3) fun x64 => gbo (x1 + x64 : Int32) fun x66 => g_X12_allocate_16 K10 f x66 x2 (x3 + 1) else gbo (x1 + 0 : Int32) fun x63 => g_X12_allocate_16 K10 f x63 x2 (x3 + 1) else gbo (x1 + 0 : Int32) fun x58 => g_X12_allocate_16 K10 f x58 x2 (x3 + 1)
noncomputable def g_X12_allocate_10 : Nat → Int32 → Int32 → GM (Int32)
  | 0, _, _ => gfail
  | f + 1, x1, x2 =>
    if x2 < 0 then gret x1 else g_X12_allocate_16 (g_X12_allocate_10 f) FU x1 x2 0
noncomputable def g_X12_allocate  : GM (Int32) :=
  gst (mSI 0 0) <| g_X12_allocate_10 FU 0 9
noncomputable def g_X12_putAway_51 (x1 : Int32) (x2 : Int32) (xs1 : Int32) : GM (Int32) :=
  gb (g_X12_holds xs1) fun x60 => if x60 = 0 then gret 0 else gb (g_X12_slotFor x1 x2) fun x63 => if x63 = (-1) then gret x63 else gb (g_X12_makes 0 x1 18 x63 (-1) x2) fun x66 => gret x63
noncomputable def g_X12_putAway (x1 : Int32) (x2 : Int32) : GM (Int32) :=
  gb (g_X12_isLot x1) fun x51 => if x51 = 0 then g_X12_putAway_51 x1 x2 1 else gb (g_X12_arePieces x2) fun x54 => if x54 = 0 then g_X12_putAway_51 x1 x2 2 else gb (g_X12_freeAt 18 x1) fun x57 => grd fun w58 => if x57 < x2 then g_X12_putAway_51 x1 x2 3 else if (mI w58 45) = 60 then g_X12_putAway_51 x1 x2 3 else g_X12_putAway_51 x1 x2 0
noncomputable def g_X12_turns_153 (xs1 : Int32) (xs2 : Int32) (xs3 : Int32) : GM (Unit) :=
  gb (g_X12_goesTo xs1 xs2 xs3) fun u74 => gret ()
noncomputable def g_X12_turns_138 (x2 : Int32) (xs1 : Int32) (xs2 : Int32) : GM (Unit) :=
  grd fun w => gix x2 (mL 48) <| g_X12_turns_153 xs1 xs2 (mA w 48 x2.toNatClampNeg)
noncomputable def g_X12_turns_147 (x2 : Int32) (xs1 : Int32) (xs2 : Int32) : GM (Unit) :=
  grd fun w => gix x2 (mL 49) <| g_X12_turns_153 xs1 xs2 (mA w 49 x2.toNatClampNeg)
noncomputable def g_X12_turns_102 (x1 : Int32) (x2 : Int32) (x3 : Int32) : GM (Unit) :=
  grd fun w => if x3 = 0 then gix x2 (mL 46) <| if (mA w 46 x2.toNatClampNeg) = 2 then g_X12_turns_138 x2 x1 x2 else gix x2 (mL 46) <| if (mA w 46 x2.toNatClampNeg) = 1 then gix x2 (mL 54) <| if (mA w 54 x2.toNatClampNeg) = 0 then g_X12_turns_138 x2 x1 x2 else g_X12_turns_147 x2 x1 x2 else g_X12_turns_147 x2 x1 x2 else gret ()
noncomputable def g_X12_turns_83 (x1 : Int32) (x2 : Int32) (x3 : Int32) : GM (Unit) :=
  if x3 = 0 then g_X12_turns_102 x1 x2 x3 else if x2 = (-1) then g_X12_turns_102 x1 x2 x3 else gix x2 (mL 54) <| gst (mSA 54 x2.toNatClampNeg 1) <| gret ()
noncomputable def g_X12_turns_58 (x1 : Int32) (x2 : Int32) (xs0 : Int32) : GM (Unit) :=
  grd fun w => if xs0 = 0 then g_X12_turns_83 x1 x2 xs0 else gix x1 (mL 55) <| if (mA w 55 x1.toNatClampNeg) = (-1) then g_X12_turns_83 x1 x2 xs0 else gix x1 (mL 55) <| gst (mSA 55 x1.toNatClampNeg (-1)) <| gret ()
noncomputable def g_X12_turns_57 (x1 : Int32) (x2 : Int32) : GM (Unit) :=
  g_X12_turns_58 x1 x2 0
noncomputable def g_X12_turns_29 (x1 : Int32) (xs0 : Int32) : GM (Unit) :=
  grd fun w => if xs0 = (-1) then g_X12_turns_58 x1 xs0 1 else gix xs0 (mL 46) <| if (mA w 46 xs0.toNatClampNeg) = 0 then gix xs0 (mL 54) <| if (mA w 54 xs0.toNatClampNeg) = 0 then g_X12_turns_58 x1 xs0 1 else g_X12_turns_57 x1 xs0 else g_X12_turns_57 x1 xs0
noncomputable def g_X12_turns (x1 : Int32) : GM (Unit) :=
  gix x1 (mL 57) <| gst (mSA 57 x1.toNatClampNeg (-1)) <| grd fun w54 => gix x1 (mL 59) <| if (mA w54 59 x1.toNatClampNeg) = 0 then g_X12_turns_29 x1 (-1) else gix (60 * x1) (mL 58) <| g_X12_turns_29 x1 (mA w54 58 (60 * x1).toNatClampNeg)
noncomputable def g_X12_ticks_32 : Nat → Int32 → Int32 → GM (Unit)
  | 0, _, _ => gfail
  | f + 1, x1, x2 =>
    if 3 ≤ x2 then if x1 = (-1) then gret () else gix x1 (mL 55) <| gst (mSA 55 x1.toNatClampNeg (-1)) <| grd fun w58 => gst (mSI 3 ((mI w58 3) + 1)) <| gret () else gb (g_X12_isInRing x2) fun x60 => if x60 = 0 then g_X12_ticks_32 f x1 (x2 + 1) else g_X12_ticks_32 f x2 (x2 + 1)
noncomputable def g_X12_ticks_12 : Nat → Int32 → GM (Unit)
  | 0, _ => gfail
  | f + 1, x1 =>
    if 3 ≤ x1 then g_X12_ticks_32 FU (-1) 0 else gb (g_X12_turns x1) fun u65 => g_X12_ticks_12 f (x1 + 1)
noncomputable def g_X12_ticks  : GM (Unit) :=
  grd fun w => gst (mSI 1 ((mI w 1) + 1)) <| g_X12_ticks_12 FU 0
noncomputable def g_X12_pass_26 : Nat → Int32 → Int32 → GM (Int32)
  | 0, _, _ => gfail
  | f + 1, x1, x2 =>
    grd fun w => if x1 ≤ x2 then gret (mI w 1) else gb (g_X12_ticks) fun u59 => g_X12_pass_26 f x1 (x2 + 1)
noncomputable def g_X12_pass_16 (x1 : Int32) (xs1 : Int32) : GM (Int32) :=
  gb (g_X12_holds xs1) fun x54 => if x54 = 0 then gret 0 else g_X12_pass_26 FU x1 0
noncomputable def g_X12_pass (x1 : Int32) : GM (Int32) :=
  gb (g_X12_isIn x1 1 50) fun x51 => if x51 = 0 then g_X12_pass_16 x1 1 else g_X12_pass_16 x1 0
