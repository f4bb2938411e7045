/-- what stands at an order's stand; the boxes of sent orders: below -/
def g_st (S : Ss) (_ : MS) : Prop := (∀ o, o < zN S 7 → zA S 705 o = 0 → sz (List.range (zN S 5)) (fun l => (zC S 0 (12 * (20 + o) + l)).toInt) ≤ sz (zL S 704 o) (fun j => (zA S 403 j).toInt)) ∧ ∀ o l, o < 8 → l < 12 → (o < zN S 7 → ¬ zA S 705 o = 0) → zC S 0 (12 * (20 + o) + l) = 0
/-- the boxes of sent orders -/
def pkd (S : Ss) (o : Nat) : List Bx := pkS (zA S 302) (zA S 303) (zA S 304) (zA S 706 o) (fun i => (zC S 1112 (6 * o + i)).toNatClampNeg) 54
def g_bx (S : Ss) (w : MS) : Prop := (∀ o, o < zN S 7 → ¬ zA S 705 o = 0 → (∀ i, i < 6 → 0 ≤ (zC S 1112 (6 * o + i)).toInt) ∧ sz (List.range 6) (fun i => (zC S 1112 (6 * o + i)).toInt) ≤ 297 ∧ mA w 35 o = nI (pkd S o).length ∧ ∀ k x, (pkd S o)[k]? = some x → mA w 34 (300 * o + k) = 1000 * x.2.1 + x.2.2.1) ∧ (∀ o i, o < 8 → i < 6 → (o < zN S 7 → zA S 705 o = 0) → zC S 1112 (6 * o + i) = 0) ∧ ∀ o i, o < 8 → i < 6 → ¬ zC S 1112 (6 * o + i) = 0 → ∃ l, l < zN S 5 ∧ itS S l = i
def Rel (B k : Nat) (S : Ss) (w : MS) : Prop := g_sl S w ∧ g_it S w ∧ g_ba S w ∧ g_sc S w ∧ g_lo S w ∧ g_be S w ∧ g_no S w ∧ g_ca S w ∧ g_aw S w ∧ g_or S w ∧ g_li S w ∧ g_bk S w ∧ g_nn B S ∧ g_tr S w ∧ g_db S w ∧ g_mv S k ∧ g_ho S w ∧ g_hs S w ∧ g_hm S w ∧ g_ta S w ∧ g_ap S w ∧ g_ro S w ∧ g_st S w ∧ g_bx S w
section
variable {B k : Nat} {S : Ss} {w : MS}
theorem Rel.sl (h : Rel B k S w) : g_sl S w := h.1
theorem Rel.it (h : Rel B k S w) : g_it S w := h.2.1
theorem Rel.ba (h : Rel B k S w) : g_ba S w := h.2.2.1
theorem Rel.sc (h : Rel B k S w) : g_sc S w := h.2.2.2.1
theorem Rel.lo (h : Rel B k S w) : g_lo S w := h.2.2.2.2.1
theorem Rel.be (h : Rel B k S w) : g_be S w := h.2.2.2.2.2.1
theorem Rel.no (h : Rel B k S w) : g_no S w := h.2.2.2.2.2.2.1
theorem Rel.ca (h : Rel B k S w) : g_ca S w := h.2.2.2.2.2.2.2.1
theorem Rel.aw (h : Rel B k S w) : g_aw S w := h.2.2.2.2.2.2.2.2.1
theorem Rel.or (h : Rel B k S w) : g_or S w := h.2.2.2.2.2.2.2.2.2.1
theorem Rel.li (h : Rel B k S w) : g_li S w := h.2.2.2.2.2.2.2.2.2.2.1
theorem Rel.bk (h : Rel B k S w) : g_bk S w := h.2.2.2.2.2.2.2.2.2.2.2.1
theorem Rel.nn (h : Rel B k S w) : g_nn B S := h.2.2.2.2.2.2.2.2.2.2.2.2.1
theorem Rel.tr (h : Rel B k S w) : g_tr S w := h.2.2.2.2.2.2.2.2.2.2.2.2.2.1
theorem Rel.db (h : Rel B k S w) : g_db S w := h.2.2.2.2.2.2.2.2.2.2.2.2.2.2.1
theorem Rel.mv (h : Rel B k S w) : g_mv S k := h.2.2.2.2.2.2.2.2.2.2.2.2.2.2.2.1
theorem Rel.ho (h : Rel B k S w) : g_ho S w := h.2.2.2.2.2.2.2.2.2.2.2.2.2.2.2.2.1
theorem Rel.hs (h : Rel B k S w) : g_hs S w := h.2.2.2.2.2.2.2.2.2.2.2.2.2.2.2.2.2.1
theorem Rel.hm (h : Rel B k S w) : g_hm S w := h.2.2.2.2.2.2.2.2.2.2.2.2.2.2.2.2.2.2.1
theorem Rel.ta (h : Rel B k S w) : g_ta S w := h.2.2.2.2.2.2.2.2.2.2.2.2.2.2.2.2.2.2.2.1
theorem Rel.ap (h : Rel B k S w) : g_ap S w := h.2.2.2.2.2.2.2.2.2.2.2.2.2.2.2.2.2.2.2.2.1
theorem Rel.ro (h : Rel B k S w) : g_ro S w := h.2.2.2.2.2.2.2.2.2.2.2.2.2.2.2.2.2.2.2.2.2.1
theorem Rel.st (h : Rel B k S w) : g_st S w := h.2.2.2.2.2.2.2.2.2.2.2.2.2.2.2.2.2.2.2.2.2.2.1
theorem Rel.bx (h : Rel B k S w) : g_bx S w := h.2.2.2.2.2.2.2.2.2.2.2.2.2.2.2.2.2.2.2.2.2.2.2
/-- a call that throws -/
def thS (S : Ss) : Ss := pN 61 (zN S 61 + 1) (pN 62 (zN S 62 + 6) S)
theorem Rel.cost (h : Rel B k S w) (a b : Nat) : Rel B k (pN 61 a (pN 62 b S)) w := ⟨h.sl, h.it, h.ba, h.sc, h.lo, h.be, h.no, h.ca, h.aw, h.or, h.li, h.bk, h.nn, h.tr, h.db, h.mv, h.ho, h.hs, h.hm, h.ta, h.ap, h.ro, h.st, h.bx⟩
theorem Rel.thr (h : Rel B k S w) (v : Int32) : Rel B k S (mSI 0 v w) := ⟨h.sl, h.it, h.ba, h.sc, h.lo, h.be, h.no, h.ca, h.aw, h.or, h.li, h.bk, h.nn, h.tr, h.db, h.mv, h.ho, h.hs, h.hm, h.ta, h.ap, h.ro, h.st, h.bx⟩
theorem Rel.nl (h : Rel B k S w) : (zL S 1103 0).length = zN S 5 := by rw [h.lo.2.1, List.length_range]
theorem Rel.nn' (h : Rel B k S w) : (zL S 1105 0).length = zN S 6 := by rw [h.no.2.1, List.length_range]
theorem Rel.nor (h : Rel B k S w) : (zL S 1106 0).length = zN S 7 := by rw [h.or.2.2.1, List.length_range]
theorem Rel.nt (h : Rel B k S w) : (zL S 1108 0).length = zN S 10 := by rw [h.ta.2.1, List.length_range]
theorem Rel.kLot (h : Rel B k S w) (x : Int32) : g_X12_isLot x w = some (bI (okI x (zN S 5)), w) := k_isLot x h.lo.2.2.1 (by have := h.lo.1; omega)
theorem Rel.kNot (h : Rel B k S w) (x : Int32) : g_X12_isNotice x w = some (bI (okI x (zN S 6)), w) := k_isNotice x h.no.2.2.1 (by have := h.no.1; omega)
theorem Rel.kOrd (h : Rel B k S w) (x : Int32) : g_X12_isOrder x w = some (bI (okI x (zN S 7)), w) := k_isOrder x h.or.2.2.2.1 (by have := h.or.1; omega)
theorem Rel.kTas (h : Rel B k S w) (x : Int32) : g_X12_isTask x w = some (bI (okI x (zN S 10)), w) := k_isTask x h.ta.2.2.1 (by have := h.ta.1; omega)
theorem lAt_n {xs : List Nat} {p j : Nat} (hp : p < 2 ^ 31) (h : xs[p]? = some j) : lAt xs (nI p) = some j := by
  unfold lAt; rw [if_neg (nI_pos hp), nI_clamp hp]; exact h
theorem Rel.atL (h : Rel B k S w) {l : Nat} (hl : l < zN S 5) : lAt (zL S 1103 0) (nI l) = some l := lAt_n (by have := h.lo.1; omega) (by rw [h.lo.2.1, List.getElem?_range hl])
theorem Rel.atN (h : Rel B k S w) {l : Nat} (hl : l < zN S 6) : lAt (zL S 1105 0) (nI l) = some l := lAt_n (by have := h.no.1; omega) (by rw [h.no.2.1, List.getElem?_range hl])
theorem Rel.atO (h : Rel B k S w) {l : Nat} (hl : l < zN S 7) : lAt (zL S 1106 0) (nI l) = some l := lAt_n (by have := h.or.1; omega) (by rw [h.or.2.2.1, List.getElem?_range hl])
theorem Rel.atT (h : Rel B k S w) {l : Nat} (hl : l < zN S 10) : lAt (zL S 1108 0) (nI l) = some l := lAt_n (by have := h.ta.1; omega) (by rw [h.ta.2.1, List.getElem?_range hl])
end
/-- how much was used by m calls -/
def capS (S : Ss) : Nat := zP S 1103 0 + zP S 1104 0 + zP S 1105 0 + zP S 1106 0 + zP S 1107 0 + zP S 1108 0 + (zP S 800 0 + zP S 800 1 + zP S 800 2) + (zP S 704 0 + zP S 704 1 + zP S 704 2 + zP S 704 3 + zP S 704 4 + zP S 704 5 + zP S 704 6 + zP S 704 7)
def g_cp (S : Ss) : Prop := (∀ f, 1103 ≤ f → f ≤ 1108 → zP S f 0 ≤ 3900) ∧ (∀ r, r < 3 → zP S 800 r ≤ 3900) ∧ ∀ o, o < 8 → zP S 704 o ≤ 3900 ∧ (zN S 7 ≤ o → zP S 704 o = 0)
def g_rm (m : Nat) (S : Ss) : Prop := zN S 61 ≤ 1000 * m + zN S 60 + 100 ∧ zN S 62 ≤ 12000 * m + 4 * capS S + 2 * zN S 60 + 100
/-- how often tasks and orders may have written into the moves -/
def cT (S : Ss) (n : Nat) : Nat := match n with
  | 0 => 0
  | t + 1 => cT S t + (if zA S 1005 t = 2 then 2 else if zA S 1006 t = 1 then 1 else 0)
def cS (S : Ss) (n : Nat) : Nat := match n with
  | 0 => 0
  | o + 1 => cS S o + (if zA S 705 o = 1 then 1 else 0)
def GG (m : Nat) (S : Ss) (w : MS) : Prop := m ≤ 512 ∧ g_rm m S ∧ g_cp S ∧ ∃ B k, B ≤ 15000 * m + 1 ∧ k ≤ m + cT S (zN S 10) + 12 * cS S (zN S 7) ∧ Rel B k S w
