/-! running programs -/
section
variable {R X : Type} {S : Ss} {w : MS}
def bnd (o : Option (X × Ss)) (k : X → Ss → Option (R × Ss)) : Option (R × Ss) := match o with
  | none => none
  | some p => k p.1 p.2
def gbn (o : Option (X × MS)) (k : X → MS → Option (R × MS)) : Option (R × MS) := match o with
  | none => none
  | some p => k p.1 p.2
theorem bnd_s (x : X) (S1 : Ss) (k : X → Ss → Option (R × Ss)) : bnd (some (x, S1)) k = k x S1 := rfl
theorem gbn_s (x : X) (S1 : MS) (k : X → MS → Option (R × MS)) : gbn (some (x, S1)) k = k x S1 := rfl
theorem r_mb (m : MM X) (k : X → MM R) : (mb m k).1 S = bnd (m.1 S) (fun x S1 => (k x).1 S1) := rfl
theorem r_gb (m : GM X) (k : X → GM R) : gb m k w = gbn (m w) (fun x w1 => k x w1) := rfl
theorem r_mrd (g : Ss → MM R) : (mrd g).1 S = (g S).1 S := rfl
theorem r_grd (g : MS → GM R) : grd g w = g w w := rfl
theorem r_mbo {α : Type} (v : α) (k : α → MM R) : (mbo v k).1 S = (k v).1 S := rfl
theorem r_gbo {α : Type} (v : α) (k : α → GM R) : gbo v k w = k v w := rfl
theorem r_mret (a : R) : (mret a).1 S = some (a, S) := rfl
theorem r_gret (a : R) : gret a w = some (a, w) := rfl
theorem r_mopt (i : Nat) (k : Nat → MM R) : mopt (some i) k = k i := rfl
theorem r_mcn (a : MM R) (b : Nat → MM R) : mcase none a b = a := rfl
theorem r_mcs (i : Nat) (a : MM R) (b : Nat → MM R) : mcase (some i) a b = b i := rfl
theorem r_wA (f i : Nat) (v : Int32) (k : MM R) : (wA f i v k).1 S = k.1 (pA f i v S) := rfl
theorem r_wO (f i : Nat) (v : Option Nat) (k : MM R) : (wO f i v k).1 S = k.1 (pO f i v S) := rfl
theorem r_wM (x v : Int32) (k : MM R) : (wM x v k).1 S = k.1 (pMv x v S) := rfl
theorem r_mput (r : Nat) (x y v : Int32) (k : MM R) : (mput r x y v k).1 S = k.1 (cPut r x y v S) := rfl
theorem r_madd (r : Nat) (x y v : Int32) (k : MM R) : (madd r x y v k).1 S = k.1 (cAdd r x y v S) := rfl
theorem r_mthr (u : Nat) : (mthr u).1 S = some ((u, 0), pN 61 (zN S 61 + 1) (pN 62 (zN S 62 + 6) S)) := rfl
theorem r_gst (u : MS → MS) (k : GM R) : gst u k w = k (u w) := rfl
theorem r_mix {x : Int32} {n : Nat} (k : MM R) (h : vp_in x n) : mix x n k = k := if_neg h
theorem r_gix {x : Int32} {n : Nat} (k : GM R) (h : vp_in x n) : gix x n k = k := if_neg h
theorem r_mgd {c : Bool} (k : MM R) (h : c = true) : mgd c k = k := if_pos h
theorem r_gmd {c : Bool} (k : GM R) (h : c = true) : gmd c k = k := if_pos h
theorem r_mnI {p n : Nat} (h : p < n) (hn : n < 2 ^ 31) (k : MM R) : mix (nI p) n k = k := r_mix k (vp_in_nI h hn)
theorem r_gnI {p n : Nat} (h : p < n) (hn : n < 2 ^ 31) (k : GM R) : gix (nI p) n k = k := r_gix k (vp_in_nI h hn)
end
theorem tstA {S : Ss} {P : (Nat → Int32) → Prop} (h : P (zA S 900)) (v : Int32) : P (zA (pA 1118 0 v S) 900) := h
theorem tstB {S : Ss} {P : (Nat → Int32) → (Nat → Nat) → Prop} (h : P (zA S 900) (zN S)) (v : Int32) : P (zA (pO 902 3 none (pA 1118 0 v (pC 3 4 v S))) 900) (zN (pO 902 3 none (pA 1118 0 v S))) := h
theorem tstC {S : Ss} {P : (Nat → Int32) → Prop} (h : P (zC S 0)) (v : Int32) : P (zC (pC 1 7 v (pC 2 8 v S)) 0) := h
theorem tstD {w : MS} {P : (Nat → Int32) → Int32 → Prop} (h : P (mA w 4) (mI w 15)) (v : Int32) : P (mA (mSA 5 7 v (mSI 1 v w)) 4) (mI (mSA 5 7 v (mSI 1 v w)) 15) := h
