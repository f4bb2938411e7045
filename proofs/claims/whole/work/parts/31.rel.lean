/-! WHAT HOLDS BETWEEN THE CALLS: S the class's, w the reference's -/
def sm {α : Type} (xs : List α) (f : α → Int32) : Int32 := match xs with
  | [] => 0
  | a :: t => f a + sm t f
def sz {α : Type} (xs : List α) (f : α → Int) : Int := match xs with
  | [] => 0
  | a :: t => f a + sz t f
def fcI (o : Option Nat) : Int32 := match o with
  | none => -1
  | some i => nI i
/-- the item of a lot, the number of a line in the reference -/
def itS (S : Ss) (l : Nat) : Nat := (zO S 501 l).getD 0
def lqS (S : Ss) (o j : Nat) : Nat := 3 * o + (zL S 704 o).idxOf j
def isB (b : Int32) (g o : Nat) : Prop := (b >>> (((nI g * 4) + nI o) &&& 31)) &&& 1 = 1
def tI (x : Int32) (a b : Int) : Prop := a ≤ x.toInt ∧ x.toInt ≤ b
def bit (x : Int32) : Prop := x = 0 ∨ x = 1
def g_sl (S : Ss) (w : MS) : Prop := ∀ s, s < 18 → mA w 4 s = zA S 900 s ∧ mA w 5 s = zA S 901 s ∧ mA w 6 s = fcI (zO S 902 s) ∧ mA w 7 s = zA S 903 s ∧ mA w 8 s = zA S 904 s ∧ (∀ i, zO S 902 s = some i → i < 6) ∧ tI (zA S 901 s) 1 200 ∧ tI (zA S 903 s) 0 99 ∧ tI (zA S 904 s) 0 99
def g_it (S : Ss) (w : MS) : Prop := ∀ i, i < 6 → zA S 300 i = nI i ∧ mA w 9 i = zA S 301 i ∧ mA w 10 i = zA S 302 i ∧ mA w 11 i = zA S 303 i ∧ mA w 12 i = zA S 304 i ∧ mA w 13 i = zA S 305 i ∧ tI (zA S 302 i) 1 9 ∧ tI (zA S 303 i) 1 20 ∧ (∃ g, g < 4 ∧ zA S 304 i = nI g) ∧ tI (zA S 305 i) 1 12
def g_ba (S : Ss) (w : MS) : Prop := ∀ g o, g < 4 → o < 4 → bit (mA w 14 (4 * g + o)) ∧ (mA w 14 (4 * g + o) = 1 ↔ isB (zA S 1115 0) g o)
def g_sc (S : Ss) (w : MS) : Prop := mI w 1 = zA S 1116 0 ∧ mI w 2 = zA S 1118 0 ∧ mI w 3 = zA S 1117 0
def g_lo (S : Ss) (w : MS) : Prop := zN S 5 ≤ 12 ∧ zL S 1103 0 = List.range (zN S 5) ∧ mI w 15 = nI (zN S 5) ∧ (∀ l, l < zN S 5 → zA S 500 l = nI l ∧ mA w 17 l = zA S 502 l ∧ mA w 18 l = zA S 503 l ∧ bit (zA S 503 l) ∧ zO S 501 l = some (itS S l) ∧ itS S l < 6 ∧ mA w 16 l = nI (itS S l)) ∧ ∀ l, zN S 5 ≤ l → l < 12 → mA w 18 l = 0
def ltE (e : Nat → Int32) (a b : Nat) : Prop := (e a).toInt < (e b).toInt ∨ (e a = e b ∧ a < b)
def g_be (S : Ss) (_ : MS) : Prop := (zL S 1104 0).Perm (List.range (zN S 5)) ∧ (zL S 1104 0).Pairwise (ltE (zA S 502))
def g_no (S : Ss) (w : MS) : Prop := zN S 6 ≤ 8 ∧ zL S 1105 0 = List.range (zN S 6) ∧ mI w 22 = nI (zN S 6) ∧ (∀ k, k < zN S 6 → (∃ i, i < 6 ∧ zO S 600 k = some i ∧ mA w 23 k = nI i) ∧ mA w 24 k = zA S 601 k ∧ mA w 25 k = zA S 602 k ∧ bit (zA S 602 k)) ∧ ∀ k, zN S 6 ≤ k → k < 8 → mA w 25 k = 0
def g_ca (S : Ss) (w : MS) : Prop := ∀ j, j < 96 → zC S 1110 j = mA w 26 j
def g_aw (S : Ss) (w : MS) : Prop := (∀ j, j < 96 → zC S 1111 j = mA w 33 j) ∧ ∀ o l, o < 8 → l < 12 → (o < zN S 7 → zA S 705 o = 0) → zC S 1111 (12 * o + l) = 0
def g_or (S : Ss) (w : MS) : Prop := zN S 7 ≤ 8 ∧ zN S 72 = zN S 7 ∧ zL S 1106 0 = List.range (zN S 7) ∧ mI w 27 = nI (zN S 7) ∧ (∀ o, o < zN S 7 → zA S 700 o = nI o ∧ mA w 28 o = zA S 701 o ∧ mA w 29 o = zA S 702 o ∧ bit (zA S 702 o) ∧ mA w 30 o = zA S 703 o ∧ mA w 32 o = zA S 705 o ∧ bit (zA S 705 o) ∧ tI (zA S 701 o) 0 9) ∧ ∀ o, zN S 7 ≤ o → o < 8 → mA w 31 o = 0 ∧ mA w 32 o = 0
/-- the lines: the reference's, what a line still lacks is never below 0 -/
def g_li (S : Ss) (w : MS) : Prop := (∀ o, o < zN S 7 → (zL S 704 o).length ≤ 3 ∧ mA w 31 o = nI (zL S 704 o).length ∧ ∀ p j, (zL S 704 o)[p]? = some j → j < zN S 4 ∧ (∃ i, i < 6 ∧ zO S 400 j = some i ∧ mA w 36 (3 * o + p) = nI i) ∧ mA w 37 (3 * o + p) = zA S 401 j ∧ mA w 38 (3 * o + p) = zA S 403 j ∧ tI (zA S 401 j) 1 99 ∧ tI (zA S 402 j) 0 99 ∧ tI (zA S 403 j) 0 99 ∧ (zA S 402 j).toInt + (zA S 403 j).toInt ≤ (zA S 401 j).toInt) ∧ (∀ o o' p p' j : Nat, o < zN S 7 → o' < zN S 7 → (zL S 704 o)[p]? = some j → (zL S 704 o')[p']? = some j → o = o' ∧ p = p') ∧ (∀ o p, o < 8 → p < 3 → (o < zN S 7 → (zL S 704 o).length ≤ p) → mA w 38 (3 * o + p) = 0)
/-- the book -/
def g_bk (S : Ss) (w : MS) : Prop := (∀ j, j < 336 → zC S 0 j = mA w 19 j) ∧ (∀ p i, p < 28 → i < 6 → zC S 1 (6 * p + i) = sm (List.range (zN S 5)) (fun l => if itS S l = i then zC S 0 (12 * p + l) else 0)) ∧ (∀ p l, p < 28 → zN S 5 ≤ l → l < 12 → zC S 0 (12 * p + l) = 0)
def g_nn (B : Nat) (S : Ss) : Prop := B ≤ 8000000 ∧ (∀ j, j < 336 → tI (zC S 0 j) 0 B) ∧ (∀ j, j < 240 → tI (zC S 2 j) 0 B)
def g_tr (S : Ss) (w : MS) : Prop := (∀ j, j < 216 → zC S 2 j = mA w 20 j) ∧ (∀ j, 216 ≤ j → j < 240 → zC S 2 j = zC S 0 j)
def g_db (S : Ss) (w : MS) : Prop := ∀ j, j < 216 → zC S 5 j = mA w 21 j + 1
/-- what was moved: the sums of all rows of the moves are the book -/
def mvS (M : Nat → Int32) (n p l : Nat) : Int32 := sm (List.range n) (fun k => if M (4 * k + 2) = nI l then (if M (4 * k + 1) = nI p then M (4 * k + 3) else 0) - (if M (4 * k) = nI p then M (4 * k + 3) else 0) else 0)
def g_mv (S : Ss) (k : Nat) : Prop := k ≤ 1024 ∧ zA S 7 0 = nI (4 * k) ∧ 4 * k ≤ zN S 60 ∧ 128 ≤ zN S 60 ∧ zN S 60 ≤ 4096 ∧ (∃ e, zN S 60 = 2 ^ e) ∧ ∀ p l, p < 28 → l < 12 → mvS (zM S) k p l = zC S 0 (12 * p + l)
/-- the holdings -/
def hL (S : Ss) : List Nat := zL S 1107 0
def hasO (S : Ss) (h : Nat) : Bool := (zO S 200 h).isSome
def hpc (S : Ss) (p l h : Nat) : Int32 := if zA S 202 h = nI p ∧ zO S 203 h = some l then zA S 204 h else 0
def g_ho (S : Ss) (_ : MS) : Prop := (hL S).Nodup ∧ (∀ h, h ∈ hL S → h < zN S 2 ∧ tI (zA S 204 h) 1 99 ∧ (∃ l, l < zN S 5 ∧ zO S 203 h = some l) ∧ (∃ p, p < 19 ∧ zA S 202 h = nI p) ∧ ((zO S 200 h = none ∧ zO S 201 h = none ∧ ∃ t, zO S 205 h = some t) ∨ ∃ o j p, zO S 200 h = some o ∧ zO S 201 h = some j ∧ o < zN S 7 ∧ j ∈ zL S 704 o ∧ zA S 705 o = 0 ∧ p < 18 ∧ zA S 202 h = nI p) ∧ ∀ t, zO S 205 h = some t → t < zN S 10 ∧ zO S 1002 t = some h ∧ (zA S 1005 t = 0 ∨ zA S 1005 t = 1) ∧ zA S 1004 t = zA S 204 h) ∧ ((hL S).filter (fun h => !hasO S h)).Pairwise (fun a b => (zO S 205 a).getD 0 < (zO S 205 b).getD 0)
/-- the sums over the holdings -/
def g_hs (S : Ss) (_ : MS) : Prop := (∀ p l, p < 19 → l < 12 → zC S 3 (12 * p + l) = sm (hL S) (hpc S p l) ∧ sz (hL S) (fun h => (hpc S p l h).toInt) ≤ (zC S 0 (12 * p + l)).toInt) ∧ ∀ j, j < zN S 4 → zA S 402 j = sm (hL S) (fun h => if zO S 201 h = some j then zA S 204 h else 0) ∧ sz (hL S) (fun h => if zO S 201 h = some j then (zA S 204 h).toInt else 0) = (zA S 402 j).toInt
/-- the reference's holdings -/
def g_hm (S : Ss) (w : MS) : Prop := mI w 39 = nI ((hL S).filter (hasO S)).length ∧ ∀ k h, ((hL S).filter (hasO S))[k]? = some h → ∃ o j l, zO S 200 h = some o ∧ zO S 201 h = some j ∧ zO S 203 h = some l ∧ mA w 40 k = nI (lqS S o j) ∧ mA w 41 k = zA S 202 h ∧ mA w 42 k = nI l ∧ mA w 43 k = zA S 204 h ∧ mA w 44 k = fcI (zO S 205 h)
/-- the tasks -/
def onT (S : Ss) (t : Nat) : Prop := zA S 1005 t = 0 ∨ zA S 1005 t = 1
def g_ta (S : Ss) (w : MS) : Prop := zN S 10 ≤ 60 ∧ zL S 1108 0 = List.range (zN S 10) ∧ mI w 45 = nI (zN S 10) ∧ ∀ t, t < zN S 10 → zA S 1000 t = nI t ∧ mA w 46 t = zA S 1001 t ∧ mA w 49 t = zA S 1003 t ∧ mA w 51 t = zA S 1004 t ∧ mA w 52 t = zA S 1005 t ∧ tI (zA S 1004 t) 0 99 ∧ tI (zA S 1005 t) 0 3 ∧ ∃ h l, zO S 1002 t = some h ∧ h < zN S 2 ∧ zO S 203 h = some l ∧ l < zN S 5 ∧ mA w 47 t = nI l ∧ mA w 48 t = zA S 202 h ∧ (onT S t → h ∈ hL S ∧ zO S 205 h = some t ∧ mA w 54 t = zA S 1006 t ∧ bit (zA S 1006 t)) ∧ ((zA S 1001 t = 0 ∧ zO S 200 h = none ∧ zO S 201 h = none ∧ zA S 202 h = nI 18 ∧ mA w 50 t = -1 ∧ ∃ s, s < 18 ∧ zA S 1003 t = nI s) ∨ (zA S 1001 t = 1 ∧ zO S 200 h = none ∧ zO S 201 h = none ∧ (∃ p, p < 18 ∧ zA S 202 h = nI p) ∧ mA w 50 t = -1 ∧ ∃ s, s < 18 ∧ zA S 1003 t = nI s) ∨ (zA S 1001 t = 2 ∧ (∃ p, p < 18 ∧ zA S 202 h = nI p) ∧ (onT S t → zA S 1006 t = 0) ∧ ∃ o j, zO S 200 h = some o ∧ zO S 201 h = some j ∧ o < zN S 7 ∧ j ∈ zL S 704 o ∧ mA w 50 t = nI (lqS S o j) ∧ zA S 1003 t = nI (20 + o)))
def lotT (S : Ss) (t : Nat) : Nat := (zO S 203 ((zO S 1002 t).getD 0)).getD 0
def apc (S : Ss) (s i t : Nat) : Int32 := if (zA S 1005 t = 0 ∨ zA S 1005 t = 1) ∧ ¬ zA S 1001 t = 2 ∧ zA S 1003 t = nI s ∧ itS S (lotT S t) = i then zA S 1004 t else 0
def g_ap (S : Ss) (_ : MS) : Prop := (∀ s i, s < 18 → i < 6 → zC S 4 (6 * s + i) = sm (List.range (zN S 10)) (apc S s i)) ∧ ∀ t s i, t < zN S 10 → s < 18 → onT S t → zA S 1003 t = nI s → ¬ zA S 1001 t = 2 → (zO S 902 s = some i → zA S 1001 t = 1 ∧ itS S (lotT S t) = i) ∧ (zO S 902 s = none → zA S 1001 t = 0)
/-- the robots and their rows -/
def rowS (S : Ss) (r : Nat) : List Nat := (zL S 800 r).filter (fun t => decide (zA S 1005 t = 1))
def g_ro (S : Ss) (w : MS) : Prop := (∀ r, r < 3 → mA w 55 r = zA S 801 r ∧ (zA S 801 r = -1 ∨ ∃ a p, a < 3 ∧ p < 6 ∧ zA S 801 r = nI a ∧ zA S 802 r = nI p ∧ mA w 56 r = nI p) ∧ mA w 59 r = nI (rowS S r).length ∧ (∀ k t, (rowS S r)[k]? = some t → mA w 58 (60 * r + k) = nI t) ∧ (zL S 800 r).Nodup ∧ (∀ t, t ∈ zL S 800 r → t < zN S 10 ∧ ¬ zA S 1005 t = 0) ∧ ∀ t, t ∈ rowS S r → mA w 53 t = nI r) ∧ (∀ r r', r < 3 → r' < 3 → zA S 801 r = zA S 801 r' → ¬ zA S 801 r = -1 → r = r') ∧ (∀ r r' t, r < 3 → r' < 3 → t ∈ zL S 800 r → t ∈ zL S 800 r' → r = r') ∧ ∀ t, t < zN S 10 → (zA S 1005 t = 0 → mA w 53 t = -1) ∧ (zA S 1005 t = 1 → ∃ r, r < 3 ∧ t ∈ zL S 800 r)
