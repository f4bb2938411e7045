theorem I_le {x y : Int32} : x ≤ y ↔ x.toInt ≤ y.toInt := Int32.le_iff_toInt_le
theorem I_lt {x y : Int32} : x < y ↔ x.toInt < y.toInt := Int32.lt_iff_toInt_lt
theorem i10 : ((1 : Int32) = 0) = False := eq_false (by decide)
theorem i00 : ((0 : Int32) = 0) = True := eq_true rfl
theorem i01 : ((0 : Int32) = 1) = False := eq_false (by decide)
theorem i11 : ((1 : Int32) = 1) = True := eq_true rfl
theorem i20 : ((2 : Int32) = 0) = False := eq_false (by decide)
theorem i30 : ((3 : Int32) = 0) = False := eq_false (by decide)
/-- a number is a place below n -/
def okI (x : Int32) (n : Nat) : Bool := decide (¬ x < 0 ∧ x < nI n)
theorem okI_t {x : Int32} {n : Nat} (hn : n < 2 ^ 31) (h : okI x n = true) : ∃ p, p < n ∧ x = nI p := by
  have h2 := of_decide_eq_true h
  rcases pk_ix x hn with q | q | q
  · exact absurd q h2.1
  · exact absurd (I_le.mp q) (by have := I_lt.mp h2.2; omega)
  · exact q
theorem okI_f {x : Int32} {n : Nat} (h : okI x n = false) : x < 0 ∨ nI n ≤ x := by
  have h2 := of_decide_eq_false h
  by_cases q : x < 0
  · exact Or.inl q
  · refine Or.inr (I_le.mpr ?_)
    have : ¬ x < nI n := fun r => h2 ⟨q, r⟩
    rw [I_lt] at this; omega
theorem okI_n {p n : Nat} (h : p < n) (hn : n < 2 ^ 31) : okI (nI p) n = true := decide_eq_true ⟨nI_pos (by omega), nI_lt h hn⟩
theorem ok_ite {α : Sort _} {x : Int32} {n : Nat} {A B : α} : (if x < 0 then A else if nI n ≤ x then A else B) = if okI x n = true then B else A := by
  cases h : okI x n with
  | true =>
    have h2 := of_decide_eq_true h
    rw [if_neg h2.1, if_neg (fun r => by have := I_le.mp r; have := I_lt.mp h2.2; omega), if_pos rfl]
  | false =>
    rcases okI_f h with q | q
    · rw [if_pos q, if_neg (by decide)]
    · by_cases q2 : x < 0
      · rw [if_pos q2, if_neg (by decide)]
      · rw [if_neg q2, if_pos q, if_neg (by decide)]
/-- a number is between two bounds -/
def inI (x a b : Int32) : Bool := decide (¬ x < a ∧ ¬ b < x)
theorem inI_t {x a b : Int32} (h : inI x a b = true) : a.toInt ≤ x.toInt ∧ x.toInt ≤ b.toInt := by
  have h2 := of_decide_eq_true h
  rw [I_lt, I_lt] at h2; omega
theorem in_ite {α : Sort _} {x a b : Int32} {A B : α} : (if x < a then A else if b < x then A else B) = if inI x a b = true then B else A := by
  unfold inI
  by_cases h1 : x < a
  · rw [if_pos h1, if_neg (by simp [h1])]
  · rw [if_neg h1]
    by_cases h2 : b < x
    · rw [if_pos h2, if_neg (by simp [h2])]
    · rw [if_neg h2, if_pos (by simp [h1, h2])]
theorem in_ok {x : Int32} {n : Nat} (hn : n < 2 ^ 31) : inI x 0 (nI n - 1) = okI x n := by
  unfold inI okI
  have e : (nI n - 1).toInt = (n : Int) - 1 := by
    cases n with
    | zero => decide
    | succ k => rw [nI_pred, nI_toInt (by omega)]; omega
  have e2 := nI_toInt hn
  by_cases q : x < 0
  · simp [q]
  · have : (¬ nI n - 1 < x) ↔ x < nI n := by rw [I_lt, I_lt, e, e2]; omega
    simp [q, this]
def bI (b : Bool) : Int32 := if b = true then 1 else 0
theorem bI_t : bI true = 1 := rfl
theorem bI_f : bI false = 0 := rfl
theorem bI_d (b : Bool) : decide (bI b = 0 ∨ bI b = 1) = true := by cases b <;> decide
theorem ite_f {R : Type} {S : Ss} {c : Prop} {d : Decidable c} (A B : MM R) : (@ite _ c d A B).1 S = @ite _ c d (A.1 S) (B.1 S) := by by_cases h : c <;> simp [h]
theorem kif {R : Type} {w : MS} {c : Prop} {d : Decidable c} (A B : GM R) : (@ite _ c d A B) w = @ite _ c d (A w) (B w) := by by_cases h : c <;> simp [h]
section
variable {S : Ss} {w : MS}
theorem e_isWithin (x a b : Int32) : (f_X11_isWithin x a b).1 S = some (bI (inI x a b), S) := by
  unfold f_X11_isWithin; rw [in_ite]; cases h : inI x a b <;> rfl
theorem e_isSlot (x : Int32) : (f_X11_isSlot x).1 S = some (bI (okI x 18), S) := by
  unfold f_X11_isSlot; rw [show (18 : Int32) = nI 18 from rfl, ok_ite]; cases h : okI x 18 <;> rfl
theorem e_isItem (x : Int32) : (f_X11_isItem x).1 S = some (bI (okI x 6), S) := by
  unfold f_X11_isItem; rw [show (6 : Int32) = nI 6 from rfl, ok_ite]; cases h : okI x 6 <;> rfl
theorem e_isGroup (x : Int32) : (f_X11_isGroup x).1 S = some (bI (okI x 4), S) := by
  unfold f_X11_isGroup; rw [show (4 : Int32) = nI 4 from rfl, ok_ite]; cases h : okI x 4 <;> rfl
theorem e_isRobot (x : Int32) : (f_X11_isRobot x).1 S = some (bI (okI x 3), S) := by
  unfold f_X11_isRobot; rw [show (3 : Int32) = nI 3 from rfl, ok_ite]; cases h : okI x 3 <;> rfl
theorem e_isLot (x : Int32) : (f_X11_isLot x).1 S = some (bI (okI x (zL S 1103 0).length), S) := by
  unfold f_X11_isLot
  show (if x < 0 then mret (0 : Int32) else if nI (zL S 1103 0).length ≤ x then mret 0 else mret 1).1 S = _
  rw [ok_ite]; cases h : okI x (zL S 1103 0).length <;> rfl
theorem e_isNotice (x : Int32) : (f_X11_isNotice x).1 S = some (bI (okI x (zL S 1105 0).length), S) := by
  unfold f_X11_isNotice
  show (if x < 0 then mret (0 : Int32) else if nI (zL S 1105 0).length ≤ x then mret 0 else mret 1).1 S = _
  rw [ok_ite]; cases h : okI x (zL S 1105 0).length <;> rfl
theorem e_isOrder (x : Int32) : (f_X11_isOrder x).1 S = some (bI (okI x (zL S 1106 0).length), S) := by
  unfold f_X11_isOrder
  show (if x < 0 then mret (0 : Int32) else if nI (zL S 1106 0).length ≤ x then mret 0 else mret 1).1 S = _
  rw [ok_ite]; cases h : okI x (zL S 1106 0).length <;> rfl
theorem e_isTask (x : Int32) : (f_X11_isTask x).1 S = some (bI (okI x (zL S 1108 0).length), S) := by
  unfold f_X11_isTask
  show (if x < 0 then mret (0 : Int32) else if nI (zL S 1108 0).length ≤ x then mret 0 else mret 1).1 S = _
  rw [ok_ite]; cases h : okI x (zL S 1108 0).length <;> rfl
theorem k_isIn (x a b : Int32) : g_X12_isIn x a b w = some (bI (inI x a b), w) := by
  unfold g_X12_isIn; rw [in_ite]; cases h : inI x a b <;> rfl
theorem k_bit (x : Bool) (k : GM Int32) : gmd (decide (bI x = 0 ∨ bI x = 1)) k = k := r_gmd k (bI_d x)
theorem k_isSlot (x : Int32) : g_X12_isSlot x w = some (bI (okI x 18), w) := by
  unfold g_X12_isSlot; rw [r_gb, k_isIn, gbn_s, k_bit, show (17 : Int32) = nI 18 - 1 from rfl, in_ok (by decide)]; rfl
theorem k_isItem (x : Int32) : g_X12_isItem x w = some (bI (okI x 6), w) := by
  unfold g_X12_isItem; rw [r_gb, k_isIn, gbn_s, k_bit, show (5 : Int32) = nI 6 - 1 from rfl, in_ok (by decide)]; rfl
theorem k_isGroup (x : Int32) : g_X12_isGroup x w = some (bI (okI x 4), w) := by
  unfold g_X12_isGroup; rw [r_gb, k_isIn, gbn_s, k_bit, show (3 : Int32) = nI 4 - 1 from rfl, in_ok (by decide)]; rfl
theorem k_isRobot (x : Int32) : g_X12_isRobot x w = some (bI (okI x 3), w) := by
  unfold g_X12_isRobot; rw [r_gb, k_isIn, gbn_s, k_bit, show (2 : Int32) = nI 3 - 1 from rfl, in_ok (by decide)]; rfl
theorem k_isLot (x : Int32) {n : Nat} (h : mI w 15 = nI n) (hn : n < 2 ^ 31) : g_X12_isLot x w = some (bI (okI x n), w) := by
  unfold g_X12_isLot; rw [r_grd, r_gb, k_isIn, gbn_s, k_bit, h, in_ok hn]; rfl
theorem k_isNotice (x : Int32) {n : Nat} (h : mI w 22 = nI n) (hn : n < 2 ^ 31) : g_X12_isNotice x w = some (bI (okI x n), w) := by
  unfold g_X12_isNotice; rw [r_grd, r_gb, k_isIn, gbn_s, k_bit, h, in_ok hn]; rfl
theorem k_isOrder (x : Int32) {n : Nat} (h : mI w 27 = nI n) (hn : n < 2 ^ 31) : g_X12_isOrder x w = some (bI (okI x n), w) := by
  unfold g_X12_isOrder; rw [r_grd, r_gb, k_isIn, gbn_s, k_bit, h, in_ok hn]; rfl
theorem k_isTask (x : Int32) {n : Nat} (h : mI w 45 = nI n) (hn : n < 2 ^ 31) : g_X12_isTask x w = some (bI (okI x n), w) := by
  unfold g_X12_isTask; rw [r_grd, r_gb, k_isIn, gbn_s, k_bit, h, in_ok hn]; rfl
theorem k_are (x : Int32) : g_X12_arePieces x w = some (bI (inI x 1 99), w) := by
  unfold g_X12_arePieces; rw [r_gb, k_isIn, gbn_s, k_bit]; rfl
theorem k_holds0 : g_X12_holds 0 w = some (1, mSI 0 0 w) := rfl
theorem k_holds1 : g_X12_holds 1 w = some (0, mSI 0 1 w) := rfl
theorem k_holds2 : g_X12_holds 2 w = some (0, mSI 0 2 w) := rfl
theorem k_holds3 : g_X12_holds 3 w = some (0, mSI 0 3 w) := rfl
theorem k_less (x y : Int32) : g_X12_less x y w = some (if y ≤ x then y else x, w) := by
  unfold g_X12_less; by_cases h : y ≤ x <;> simp [h, r_gret]
/-- places of the tables -/
theorem cAt_in {r p l : Nat} (hl : l < cWd r) (hp : p * cWd r + l < cLn r) : cAt S r (nI p) (nI l) = zC S r (cWd r * p + l) := by
  have h1 := cLn_lt r
  have e1 : nI p * nI (cWd r) + nI l = nI (p * cWd r + l) := by rw [pk_mul, nI_add]
  have hw : cWd r < 2000 := by unfold cWd; split <;> omega
  unfold cAt cIx
  rw [e1, if_neg, nI_clamp (by omega), Nat.mul_comm]
  rintro (q | q | q | q)
  · exact nI_pos (by omega) q
  · exact nI_ge hl (by omega) q
  · exact nI_pos (by omega) q
  · exact nI_ge hp (by omega) q
theorem cAdd_in {r p l : Nat} {v : Int32} (hl : l < cWd r) (hp : p * cWd r + l < cLn r) : cAdd r (nI p) (nI l) v S = pC r (cWd r * p + l) (zC S r (cWd r * p + l) + v) S := by
  have h1 := cLn_lt r
  have e1 : nI p * nI (cWd r) + nI l = nI (p * cWd r + l) := by rw [pk_mul, nI_add]
  have hw : cWd r < 2000 := by unfold cWd; split <;> omega
  unfold cAdd cIx
  rw [e1, if_neg, nI_clamp (by omega), Nat.mul_comm]
  rintro (q | q | q | q)
  · exact nI_pos (by omega) q
  · exact nI_ge hl (by omega) q
  · exact nI_pos (by omega) q
  · exact nI_ge hp (by omega) q
theorem cPut_in {r p l : Nat} {v : Int32} (hl : l < cWd r) (hp : p * cWd r + l < cLn r) : cPut r (nI p) (nI l) v S = pC r (cWd r * p + l) v S := by
  have h1 := cLn_lt r
  have e1 : nI p * nI (cWd r) + nI l = nI (p * cWd r + l) := by rw [pk_mul, nI_add]
  have hw : cWd r < 2000 := by unfold cWd; split <;> omega
  unfold cPut cIx
  rw [e1, if_neg, nI_clamp (by omega), Nat.mul_comm]
  rintro (q | q | q | q)
  · exact nI_pos (by omega) q
  · exact nI_ge hl (by omega) q
  · exact nI_pos (by omega) q
  · exact nI_ge hp (by omega) q
theorem cOut {r p l : Nat} {v : Int32} (hl : l < cWd r) (hp : cLn r ≤ p * cWd r) (h9 : p < 100) : cAdd r (nI p) (nI l) v S = S ∧ cPut r (nI p) (nI l) v S = S := by
  have e1 : nI p * nI (cWd r) + nI l = nI (p * cWd r + l) := by rw [pk_mul, nI_add]
  have hw : cWd r < 13 := by unfold cWd; split <;> omega
  have h2 : p * cWd r ≤ 100 * 13 := Nat.mul_le_mul (by omega) (by omega)
  unfold cAdd cPut
  rw [e1]
  have : nI l < 0 ∨ nI (cWd r) ≤ nI l ∨ nI (p * cWd r + l) < 0 ∨ nI (cLn r) ≤ nI (p * cWd r + l) := Or.inr (Or.inr (Or.inr (nI_le (by omega) (by omega))))
  exact ⟨if_pos this, if_pos this⟩
theorem cNone {r l : Nat} {v : Int32} (hl : l < cWd r) : cAdd r (-1) (nI l) v S = S ∧ cPut r (-1) (nI l) v S = S := by
  have hw : cWd r < 13 := by unfold cWd; split <;> omega
  have e : (-1 : Int32) * nI (cWd r) + nI l < 0 := by
    have h1 : ∀ a, a < 13 → ∀ b, b < a → (-1 : Int32) * nI a + nI b < 0 := by decide +kernel
    exact h1 _ hw _ hl
  unfold cAdd cPut
  have : nI l < 0 ∨ nI (cWd r) ≤ nI l ∨ (-1 : Int32) * nI (cWd r) + nI l < 0 ∨ nI (cLn r) ≤ (-1 : Int32) * nI (cWd r) + nI l := Or.inr (Or.inr (Or.inl e))
  exact ⟨if_pos this, if_pos this⟩
end
