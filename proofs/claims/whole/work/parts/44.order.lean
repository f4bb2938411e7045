section
variable {m : Nat} {S T : Ss} {w v : MS} {R : Type}
theorem cS_lt {S T : Ss} : ∀ n, (∀ t, t < n → zA T 705 t = zA S 705 t) → cS T n = cS S n
  | 0, _ => rfl
  | t + 1, h => by unfold cS; rw [cS_lt t fun q hq => h q (by omega), h t (by omega)]
theorem r_mnl {i : Nat} {k : MM R} (h : i = zN S 72) : (mnl i k).1 S = k.1 (pNL i S) := by
  show (if i = zN S 72 then mst (pNL i) (pNL_le i) k else mfail).1 S = _
  rw [if_pos h]; rfl
/-- the class's numbers behind a new order, the reference's -/
def oT (S : Ss) (x y z : Int32) : Ss := pA 703 (zN S 7) z (pA 702 (zN S 7) y (pA 701 (zN S 7) x (pA 700 (zN S 7) (nI (zN S 7)) (pNL (zN S 7) (pNew 7 7 S)))))
def oV (S : Ss) (w : MS) (x y z : Int32) : MS := mSI 27 (nI (zN S 7 + 1)) (mSA 30 (zN S 7) z (mSA 29 (zN S 7) y (mSA 28 (zN S 7) x (mSI 0 0 w))))
def oL (S : Ss) (c : Nat) (x y z : Int32) : Ss := pL 1106 0 (List.range (zN S 7 + 1)) c (oT S x y z)
theorem oT_705 (S : Ss) (x y z : Int32) (o : Nat) : zA (oT S x y z) 705 o = if o = zN S 7 then 0 else zA S 705 o := by
  show (if 705 / 100 = 7 ∧ o = zN S 7 then (0 : Int32) else zA S 705 o) = _
  by_cases r : o = zN S 7 <;> simp [r]
theorem oL_704 (S : Ss) (c : Nat) (x y z : Int32) (o : Nat) : zL (oL S c x y z) 704 o = if o = zN S 7 then [] else zL S 704 o := by
  show u2 1106 0 (List.range (zN S 7 + 1)) (u2 704 (zN S 7) [] (zL S)) 704 o = _
  rw [u2_at, if_neg (fun r => absurd r.1 (by decide)), u2_at]
  by_cases r : o = zN S 7 <;> simp [r]
theorem oL_A (S : Ss) (c : Nat) (x y z : Int32) (f i : Nat) (hf : f / 100 ≠ 7) : zA (oL S c x y z) f i = zA S f i ∧ zO (oL S c x y z) f i = zO S f i := by
  constructor
  · show u2 703 (zN S 7) z (u2 702 (zN S 7) y (u2 701 (zN S 7) x (u2 700 (zN S 7) (nI (zN S 7)) (fun f i => if f / 100 = 7 ∧ i = zN S 7 then 0 else zA S f i)))) f i = _
    rw [u2_at, if_neg (fun r => by omega), u2_at, if_neg (fun r => by omega), u2_at, if_neg (fun r => by omega), u2_at, if_neg (fun r => by omega), if_neg (fun r => by omega)]
  · show (if f / 100 = 7 ∧ i = zN S 7 then none else zO S f i) = _
    rw [if_neg (fun r => by omega)]
end
