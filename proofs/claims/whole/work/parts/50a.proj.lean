/-! projections of changed states -/
theorem hL_eq (S : Ss) : hL S = zL S 1107 0 := rfl
section
variable {S : Ss} {w : MS}
theorem tOA {f i : Nat} {x : Int32} : zO (pA f i x S) = zO S := rfl
theorem tLA {f i : Nat} {x : Int32} : zL (pA f i x S) = zL S := rfl
theorem tPA {f i : Nat} {x : Int32} : zP (pA f i x S) = zP S := rfl
theorem tCA {f i : Nat} {x : Int32} : zC (pA f i x S) = zC S := rfl
theorem tMA {f i : Nat} {x : Int32} : zM (pA f i x S) = zM S := rfl
theorem tNA {f i : Nat} {x : Int32} : zN (pA f i x S) = zN S := rfl
theorem tAO {f i : Nat} {x : Option Nat} : zA (pO f i x S) = zA S := rfl
theorem tLO {f i : Nat} {x : Option Nat} : zL (pO f i x S) = zL S := rfl
theorem tPO {f i : Nat} {x : Option Nat} : zP (pO f i x S) = zP S := rfl
theorem tCO {f i : Nat} {x : Option Nat} : zC (pO f i x S) = zC S := rfl
theorem tMO {f i : Nat} {x : Option Nat} : zM (pO f i x S) = zM S := rfl
theorem tNO {f i : Nat} {x : Option Nat} : zN (pO f i x S) = zN S := rfl
theorem tAL {f i c : Nat} {x : List Nat} : zA (pL f i x c S) = zA S := rfl
theorem tOL {f i c : Nat} {x : List Nat} : zO (pL f i x c S) = zO S := rfl
theorem tCL {f i c : Nat} {x : List Nat} : zC (pL f i x c S) = zC S := rfl
theorem tML {f i c : Nat} {x : List Nat} : zM (pL f i x c S) = zM S := rfl
theorem tNL {f i c : Nat} {x : List Nat} : zN (pL f i x c S) = zN S := rfl
theorem tAC {f i : Nat} {x : Int32} : zA (pC f i x S) = zA S := rfl
theorem tOC {f i : Nat} {x : Int32} : zO (pC f i x S) = zO S := rfl
theorem tLC {f i : Nat} {x : Int32} : zL (pC f i x S) = zL S := rfl
theorem tPC {f i : Nat} {x : Int32} : zP (pC f i x S) = zP S := rfl
theorem tMC {f i : Nat} {x : Int32} : zM (pC f i x S) = zM S := rfl
theorem tNC {f i : Nat} {x : Int32} : zN (pC f i x S) = zN S := rfl
theorem tAM {x : Nat → Int32} : zA (pM x S) = zA S := rfl
theorem tOM {x : Nat → Int32} : zO (pM x S) = zO S := rfl
theorem tLM {x : Nat → Int32} : zL (pM x S) = zL S := rfl
theorem tPM {x : Nat → Int32} : zP (pM x S) = zP S := rfl
theorem tCM {x : Nat → Int32} : zC (pM x S) = zC S := rfl
theorem tNM {x : Nat → Int32} : zN (pM x S) = zN S := rfl
theorem tAN {f x : Nat} : zA (pN f x S) = zA S := rfl
theorem tON {f x : Nat} : zO (pN f x S) = zO S := rfl
theorem tLN {f x : Nat} : zL (pN f x S) = zL S := rfl
theorem tPN {f x : Nat} : zP (pN f x S) = zP S := rfl
theorem tCN {f x : Nat} : zC (pN f x S) = zC S := rfl
theorem tMN {f x : Nat} : zM (pN f x S) = zM S := rfl
theorem fAA {f i : Nat} {x : Int32} {f2 : Nat} (h : f2 ≠ f) : zA (pA f i x S) f2 = zA S f2 := funext fun _ => if_neg fun r => h r.1
theorem sAA {f i : Nat} {x : Int32} {j : Nat} : zA (pA f i x S) f j = if j = i then x else zA S f j := by
  show u2 f i x (zA S) f j = _
  rw [u2_at]; simp only [true_and]
theorem fOO {f i : Nat} {x : Option Nat} {f2 : Nat} (h : f2 ≠ f) : zO (pO f i x S) f2 = zO S f2 := funext fun _ => if_neg fun r => h r.1
theorem sOO {f i : Nat} {x : Option Nat} {j : Nat} : zO (pO f i x S) f j = if j = i then x else zO S f j := by
  show u2 f i x (zO S) f j = _
  rw [u2_at]; simp only [true_and]
theorem fLL {f i c : Nat} {x : List Nat} {f2 : Nat} (h : f2 ≠ f) : zL (pL f i x c S) f2 = zL S f2 := funext fun _ => if_neg fun r => h r.1
theorem sLL {f i c : Nat} {x : List Nat} {j : Nat} : zL (pL f i x c S) f j = if j = i then x else zL S f j := by
  show u2 f i x (zL S) f j = _
  rw [u2_at]; simp only [true_and]
theorem fCC {f i : Nat} {x : Int32} {f2 : Nat} (h : f2 ≠ f) : zC (pC f i x S) f2 = zC S f2 := funext fun _ => if_neg fun r => h r.1
theorem sCC {f i : Nat} {x : Int32} {j : Nat} : zC (pC f i x S) f j = if j = i then x else zC S f j := by
  show u2 f i x (zC S) f j = _
  rw [u2_at]; simp only [true_and]
theorem fPL {f i c f2 : Nat} {x : List Nat} (h : f2 ≠ f) : zP (pL f i x c S) f2 = zP S f2 := funext fun _ => if_neg fun r => h r.1
theorem sPL {f i c j : Nat} {x : List Nat} : zP (pL f i x c S) f j = if j = i then c else zP S f j := by
  show u2 f i c (zP S) f j = _
  rw [u2_at]; simp only [true_and]
theorem fNN {f x f2 : Nat} (h : f2 ≠ f) : zN (pN f x S) f2 = zN S f2 := if_neg h
theorem sNN {f x : Nat} : zN (pN f x S) f = x := if_pos rfl
theorem sMM {x : Nat → Int32} : zM (pM x S) = x := rfl
theorem fBA {k i k2 : Nat} {x : Int32} (h : k2 ≠ k) : mA (mSA k i x w) k2 = mA w k2 := funext fun _ => if_neg fun r => h r.1
theorem sBA {k i j : Nat} {x : Int32} : mA (mSA k i x w) k j = if j = i then x else mA w k j := by
  show (if k = k ∧ j = i then x else mA w k j) = _
  simp only [true_and]
theorem tIB {k i : Nat} {x : Int32} : mI (mSA k i x w) = mI w := rfl
theorem tBI {k : Nat} {x : Int32} : mA (mSI k x w) = mA w := rfl
theorem fII {k k2 : Nat} {x : Int32} (h : k2 ≠ k) : mI (mSI k x w) k2 = mI w k2 := if_neg h
theorem sII {k : Nat} {x : Int32} : mI (mSI k x w) k = x := if_pos rfl
end
