/-! programs over the numbers -/
abbrev MM (R : Type) : Type := {f : Ss → Option (R × Ss) // ∀ S r S', f S = some (r, S') → zle S S'}
section
variable {R X : Type}
def mfail : MM R := ⟨fun _ => none, fun _ _ _ h => by cases h⟩
def mret (r : R) : MM R := ⟨fun S => some (r, S), fun S r S' h => by cases h; exact zle.rf S⟩
def mrd (g : Ss → MM R) : MM R := ⟨fun S => (g S).1 S, fun S r S' h => (g S).2 S r S' h⟩
def mst (u : Ss → Ss) (hu : ∀ S, zle S (u S)) (k : MM R) : MM R := ⟨fun S => k.1 (u S), fun S r S' h => (hu S).tr (k.2 _ _ _ h)⟩
def mb (m : MM X) (k : X → MM R) : MM R := ⟨fun S => match m.1 S with | none => none | some p => (k p.1).1 p.2, fun S r S' h => by
  dsimp only at h
  cases hm : m.1 S with
  | none => rw [hm] at h; cases h
  | some p => rw [hm] at h; exact (m.2 S p.1 p.2 hm).tr ((k p.1).2 _ _ _ h)⟩
def mbo {α : Type} (v : α) (k : α → MM R) : MM R := k v
def mopt (o : Option Nat) (k : Nat → MM R) : MM R := match o with
  | none => mfail
  | some i => k i
def mcase (o : Option Nat) (a : MM R) (b : Nat → MM R) : MM R := match o with
  | none => a
  | some i => b i
def mix (x : Int32) (n : Nat) (k : MM R) : MM R := if x < 0 ∨ n ≤ x.toNatClampNeg then mfail else k
def mgd (c : Bool) (k : MM R) : MM R := if c = true then k else mfail
def wA (f i : Nat) (v : Int32) (k : MM R) : MM R := mst (pA f i v) (fun _ _ => Nat.le_refl _) k
def wO (f i : Nat) (v : Option Nat) (k : MM R) : MM R := mst (pO f i v) (fun _ _ => Nat.le_refl _) k
def pMv (x v : Int32) (S : Ss) : Ss := pM (u1 x.toNatClampNeg v (zM S)) S
def wM (x v : Int32) (k : MM R) : MM R := mst (pMv x v) (fun _ _ => Nat.le_refl _) k
theorem u1_le {c v : Nat} {N : Nat → Nat} (h : N c ≤ v) : ∀ k, N k ≤ u1 c v N k := fun k => by
  rw [u1_at]; split
  · rename_i q; rw [q]; exact h
  · exact Nat.le_refl _
theorem pGr_le (S : Ss) : zle S (pGr S) := by
  intro k
  show zN S k ≤ u1 61 (zN S 61 + 1) (u1 62 (zN S 62 + 2 * zN S 60) (u1 60 (2 * zN S 60) (zN S))) k
  rw [u1_at, u1_at, u1_at]
  split
  · rename_i q; rw [q]; omega
  · split
    · rename_i q; rw [q]; omega
    · split
      · rename_i q; rw [q]; omega
      · omega
def mgrow (k : MM R) : MM R := mrd fun S => if 0 < zN S 60 ∧ zN S 60 ≤ 4096 then mst pGr pGr_le k else mfail
def mnew (c n : Nat) (k : Nat → MM R) : MM R := mrd fun S => mst (pNew c n) (pNew_le c n) (k (zN S c))
def mnl (i : Nat) (k : MM R) : MM R := mrd fun S => if i = zN S 72 then mst (pNL i) (pNL_le i) k else mfail
/-- places of a table -/
theorem cLn_lt (r : Nat) : cLn r < 2000 := by
  unfold cLn
  split <;> omega
def cIx (r : Nat) (x y : Int32) : Nat := (x * nI (cWd r) + y).toNatClampNeg
def cAt (S : Ss) (r : Nat) (x y : Int32) : Int32 := if y < 0 ∨ nI (cWd r) ≤ y ∨ x * nI (cWd r) + y < 0 ∨ nI (cLn r) ≤ x * nI (cWd r) + y then 0 else zC S r (cIx r x y)
def cPut (r : Nat) (x y v : Int32) (S : Ss) : Ss := if y < 0 ∨ nI (cWd r) ≤ y ∨ x * nI (cWd r) + y < 0 ∨ nI (cLn r) ≤ x * nI (cWd r) + y then S else pC r (cIx r x y) v S
def cAdd (r : Nat) (x y v : Int32) (S : Ss) : Ss := if y < 0 ∨ nI (cWd r) ≤ y ∨ x * nI (cWd r) + y < 0 ∨ nI (cLn r) ≤ x * nI (cWd r) + y then S else pC r (cIx r x y) (zC S r (cIx r x y) + v) S
theorem cPut_n (r : Nat) (x y v : Int32) (S : Ss) : zN (cPut r x y v S) = zN S := by unfold cPut; split <;> rfl
theorem cAdd_n (r : Nat) (x y v : Int32) (S : Ss) : zN (cAdd r x y v S) = zN S := by unfold cAdd; split <;> rfl
def mput (r : Nat) (x y v : Int32) (k : MM R) : MM R := mst (cPut r x y v) (fun S c => by rw [cPut_n]; exact Nat.le_refl _) k
def madd (r : Nat) (x y v : Int32) (k : MM R) : MM R := mst (cAdd r x y v) (fun S c => by rw [cAdd_n]; exact Nat.le_refl _) k
/-- lists -/
def lAt (xs : List Nat) (x : Int32) : Option Nat := if x < 0 then none else xs[x.toNatClampNeg]?
def pAdd (f i e : Nat) (S : Ss) : Ss := if (zL S f i).length = zP S f i then pN 61 (zN S 61 + 1) (pN 62 (zN S 62 + capN (zP S f i)) (pL f i (zL S f i ++ [e]) (capN (zP S f i)) S)) else pL f i (zL S f i ++ [e]) (zP S f i) S
def pIns (f i j e : Nat) (S : Ss) : Ss := if (zL S f i).length = zP S f i then pN 61 (zN S 61 + 1) (pN 62 (zN S 62 + capN (zP S f i)) (pL f i (lIns j e (zL S f i)) (capN (zP S f i)) S)) else pL f i (lIns j e (zL S f i)) (zP S f i) S
theorem pN2_le (S : Ss) (a b : Nat) (ha : zN S 61 ≤ a) (hb : zN S 62 ≤ b) {T : Ss} (hT : zN T = zN S) : zle S (pN 61 a (pN 62 b T)) := by
  intro k
  show zN S k ≤ u1 61 a (u1 62 b (zN T)) k
  rw [u1_at, u1_at, hT]
  split
  · rename_i q; rw [q]; exact ha
  · split
    · rename_i q; rw [q]; exact hb
    · exact Nat.le_refl _
theorem pAdd_le (f i e : Nat) (S : Ss) : zle S (pAdd f i e S) := by
  unfold pAdd; split
  · exact pN2_le S _ _ (by omega) (by omega) rfl
  · exact fun _ => Nat.le_refl _
theorem pIns_le (f i j e : Nat) (S : Ss) : zle S (pIns f i j e S) := by
  unfold pIns; split
  · exact pN2_le S _ _ (by omega) (by omega) rfl
  · exact fun _ => Nat.le_refl _
def mladd (f i e : Nat) (k : MM R) : MM R := mrd fun S => if (zL S f i).length = zP S f i → zP S f i < 2600 then mst (pAdd f i e) (pAdd_le f i e) k else mfail
def mlins (f i : Nat) (x : Int32) (e : Nat) (k : MM R) : MM R := mrd fun S => if ((zL S f i).length = zP S f i → zP S f i < 2600) ∧ ¬ x < 0 ∧ x.toNatClampNeg ≤ (zL S f i).length then mst (pIns f i x.toNatClampNeg e) (pIns_le f i _ e) k else mfail
def pRem (f i j : Nat) (S : Ss) : Ss := pL f i ((zL S f i).eraseIdx j) (zP S f i) S
def mlget (f i : Nat) (x : Int32) (k : Nat → MM R) : MM R := mrd fun S => mopt (lAt (zL S f i) x) k
def mlrem (f i : Nat) (x : Int32) (k : Nat → MM R) : MM R := mrd fun S => mopt (lAt (zL S f i) x) fun j => mst (pRem f i x.toNatClampNeg) (fun _ _ => Nat.le_refl _) (k j)
def mthr (u : Nat) : MM (Nat × Int32) := mst (fun S => pN 61 (zN S 61 + 1) (pN 62 (zN S 62 + 6) S)) (fun S => pN2_le S _ _ (by omega) (by omega) rfl) (mret (u, 0))
end
section
variable {R X : Type} {S S' : Ss} {r : R}
theorem mle {m : MM R} (h : m.1 S = some (r, S')) : zle S S' := m.2 S r S' h
theorem mret_some {a : R} (h : (mret a).1 S = some (r, S')) : a = r ∧ S = S' := by cases h; exact ⟨rfl, rfl⟩
theorem mst_some {u : Ss → Ss} {hu : ∀ S, zle S (u S)} {k : MM R} (h : (mst u hu k).1 S = some (r, S')) : ∃ S1, u S = S1 ∧ zle S S1 ∧ k.1 S1 = some (r, S') := ⟨_, rfl, hu S, h⟩
theorem mb_some {m : MM X} {k : X → MM R} (h : (mb m k).1 S = some (r, S')) : ∃ x S1, m.1 S = some (x, S1) ∧ zle S S1 ∧ (k x).1 S1 = some (r, S') := by
  unfold mb at h
  dsimp only at h
  split at h
  · cases h
  · rename_i p hp
    exact ⟨p.1, p.2, hp, m.2 _ _ _ hp, h⟩
theorem mbo_some {α : Type} {v : α} {k : α → MM R} (h : (mbo v k).1 S = some (r, S')) : ∃ x, x = v ∧ (k x).1 S = some (r, S') := ⟨v, rfl, h⟩
theorem mopt_some {o : Option Nat} {k : Nat → MM R} (h : (mopt o k).1 S = some (r, S')) : ∃ i, o = some i ∧ (k i).1 S = some (r, S') := by
  cases o with
  | none => cases h
  | some i => exact ⟨i, rfl, h⟩
theorem mcase_n {o : Option Nat} {a : MM R} {b : Nat → MM R} (h : (mcase o a b).1 S = some (r, S')) (e : o = none) : a.1 S = some (r, S') := by subst e; exact h
theorem mcase_s {o : Option Nat} {a : MM R} {b : Nat → MM R} {i : Nat} (h : (mcase o a b).1 S = some (r, S')) (e : o = some i) : (b i).1 S = some (r, S') := by subst e; exact h
theorem mix_some {x : Int32} {n : Nat} {k : MM R} (h : (mix x n k).1 S = some (r, S')) : vp_in x n ∧ k.1 S = some (r, S') := by
  unfold mix at h
  split at h
  · cases h
  · rename_i q; exact ⟨q, h⟩
theorem mgd_some {c : Bool} {k : MM R} (h : (mgd c k).1 S = some (r, S')) : c = true ∧ k.1 S = some (r, S') := by
  unfold mgd at h
  split at h
  · rename_i q; exact ⟨q, h⟩
  · cases h
theorem mif_t {c : Prop} {d : Decidable c} {a b : MM R} (h : (@ite _ c d a b).1 S = some (r, S')) (hc : c) : a.1 S = some (r, S') := by rw [if_pos hc] at h; exact h
theorem mif_f {c : Prop} {d : Decidable c} {a b : MM R} (h : (@ite _ c d a b).1 S = some (r, S')) (hc : ¬ c) : b.1 S = some (r, S') := by rw [if_neg hc] at h; exact h
theorem mgrow_some {k : MM R} (h : (mgrow k).1 S = some (r, S')) : 0 < zN S 60 ∧ zN S 60 ≤ 4096 ∧ ∃ S1, pGr S = S1 ∧ zle S S1 ∧ k.1 S1 = some (r, S') := by
  unfold mgrow at h
  replace h : (if 0 < zN S 60 ∧ zN S 60 ≤ 4096 then mst pGr pGr_le k else mfail).1 S = some (r, S') := h
  split at h
  · rename_i q; exact ⟨q.1, q.2, mst_some h⟩
  · cases h
theorem mnew_some {c n : Nat} {k : Nat → MM R} (h : (mnew c n k).1 S = some (r, S')) : ∃ S1 i, pNew c n S = S1 ∧ zN S c = i ∧ zle S S1 ∧ (k i).1 S1 = some (r, S') := ⟨_, _, rfl, rfl, pNew_le c n S, h⟩
theorem mnl_some {i : Nat} {k : MM R} (h : (mnl i k).1 S = some (r, S')) : i = zN S 72 ∧ ∃ S1, pNL i S = S1 ∧ zle S S1 ∧ k.1 S1 = some (r, S') := by
  replace h : (if i = zN S 72 then mst (pNL i) (pNL_le i) k else mfail).1 S = some (r, S') := h
  split at h
  · rename_i q; exact ⟨q, mst_some h⟩
  · cases h
theorem mladd_some {f i e : Nat} {k : MM R} (h : (mladd f i e k).1 S = some (r, S')) : ((zL S f i).length = zP S f i → zP S f i < 2600) ∧ ∃ S1, pAdd f i e S = S1 ∧ zle S S1 ∧ k.1 S1 = some (r, S') := by
  replace h : (if (zL S f i).length = zP S f i → zP S f i < 2600 then mst (pAdd f i e) (pAdd_le f i e) k else mfail).1 S = some (r, S') := h
  split at h
  · rename_i q; exact ⟨q, mst_some h⟩
  · cases h
theorem mlins_some {f i e : Nat} {x : Int32} {k : MM R} (h : (mlins f i x e k).1 S = some (r, S')) : (((zL S f i).length = zP S f i → zP S f i < 2600) ∧ ¬ x < 0 ∧ x.toNatClampNeg ≤ (zL S f i).length) ∧ ∃ S1, pIns f i x.toNatClampNeg e S = S1 ∧ zle S S1 ∧ k.1 S1 = some (r, S') := by
  replace h : (if ((zL S f i).length = zP S f i → zP S f i < 2600) ∧ ¬ x < 0 ∧ x.toNatClampNeg ≤ (zL S f i).length then mst (pIns f i x.toNatClampNeg e) (pIns_le f i _ e) k else mfail).1 S = some (r, S') := h
  split at h
  · rename_i q; exact ⟨q, mst_some h⟩
  · cases h
theorem mlget_some {f i : Nat} {x : Int32} {k : Nat → MM R} (h : (mlget f i x k).1 S = some (r, S')) : ∃ j, lAt (zL S f i) x = some j ∧ (k j).1 S = some (r, S') := mopt_some (o := lAt (zL S f i) x) h
theorem mlrem_some {f i : Nat} {x : Int32} {k : Nat → MM R} (h : (mlrem f i x k).1 S = some (r, S')) : ∃ j, lAt (zL S f i) x = some j ∧ ∃ S1, pRem f i x.toNatClampNeg S = S1 ∧ zle S S1 ∧ (k j).1 S1 = some (r, S') := by
  obtain ⟨j, h1, h2⟩ := mopt_some (o := lAt (zL S f i) x) h
  exact ⟨j, h1, mst_some h2⟩
theorem mthr_b {u k n : Nat} {r : Nat × Int32} (h : (mthr u).1 S = some (r, S')) (hk : zN S' 61 ≤ zN S 61 + k) (hn : zN S' 62 ≤ zN S 62 + n) : 1 ≤ k ∧ 6 ≤ n := by
  cases h
  have e1 : zN S 61 + 1 ≤ zN S 61 + k := hk
  have e2 : zN S 62 + 6 ≤ zN S 62 + n := hn
  omega
theorem bud {a b c k : Nat} (h1 : a ≤ b) (h2 : b ≤ c) (h3 : c ≤ a + k) : ∃ k1 k2, k2 + k1 = k ∧ b ≤ a + k1 ∧ c ≤ b + k2 := ⟨b - a, k - (b - a), by omega, by omega, by omega⟩
theorem bup {a b c k : Nat} (h : c ≤ a + k) (h1 : a ≤ b) : c ≤ b + k := by omega
end
section
variable {D : Nat → Nat → Nat} {σ : St} {S : Ss}
theorem q_at (h : RC D σ S) {c r a : Nat} {x y v : Int32} (hr : cF r c = true) (A : AT D S 30000 r a) (e : v = cAt S r x y) {Q : Int32 → St → Prop} (hq : Q v σ) : w_X1_at a x y σ Q := by
  obtain ⟨g1, g2, g3, g4, g5, g6, g7⟩ := h.2.2.2.2.1 r c hr
  rw [A.2] at g2 g3 g4
  subst e
  have hz : (y < 0 ∨ nI (cWd r) ≤ y ∨ x * nI (cWd r) + y < 0 ∨ nI (cLn r) ≤ x * nI (cWd r) + y) → w_X1_at_38 Q a (x * nI (cWd r) + y) σ := fun q => by
    unfold cAt at hq
    rw [if_pos q] at hq
    unfold w_X1_at_38 w_X1_at_39
    exact ⟨fun _ => hq, fun w => absurd rfl w⟩
  unfold w_X1_at
  rw [g3]
  rintro x51 rfl
  refine ⟨fun q => hz (Or.inl q), fun q1 => ⟨fun q => hz (Or.inr (Or.inl q)), fun q2 => ⟨fun q => hz (Or.inr (Or.inr (Or.inl q))), fun q3 => ?_⟩⟩⟩
  rintro o rfl
  refine ⟨D 30001 r, g4, ?_⟩
  rw [g6]
  refine ⟨fun q => hz (Or.inr (Or.inr (Or.inr q))), fun q4 => ?_⟩
  unfold w_X1_at_39
  refine ⟨fun w => absurd w (by decide), fun _ => ?_⟩
  rintro o rfl
  refine ⟨D 30001 r, g4, ?_, ?_⟩
  · rw [g6]
    obtain ⟨j, hj, e⟩ := nI_of q3
    rw [e] at q4 ⊢
    have : j < cLn r := Nat.lt_of_not_le fun w => q4 (nI_le w hj)
    exact vp_in_nI this (by have := cLn_lt r; omega)
  · unfold cAt at hq
    rw [if_neg (fun w => by rcases w with w | w | w | w; exact q1 w; exact q2 w; exact q3 w; exact q4 w)] at hq
    rw [g7]; exact hq
theorem q_put (h : RC D σ S) {c r a : Nat} {x y v : Int32} (hr : cF r c = true) (A : AT D S 30000 r a) {Q : St → Prop} (hq : ∀ s, RC D s (cPut r x y v S) → Q s) : w_X1_put a x y v σ Q := by
  obtain ⟨g1, g2, g3, g4, g5, g6, g7⟩ := h.2.2.2.2.1 r c hr
  rw [A.2] at g2 g3 g4
  have hz : (y < 0 ∨ nI (cWd r) ≤ y ∨ x * nI (cWd r) + y < 0 ∨ nI (cLn r) ≤ x * nI (cWd r) + y) → Q σ := fun q => hq σ (by unfold cPut; rw [if_pos q]; exact h)
  unfold w_X1_put
  rw [g3]
  rintro x51 rfl
  refine ⟨fun q => hz (Or.inl q), fun q1 => ⟨fun q => hz (Or.inr (Or.inl q)), fun q2 => ⟨fun q => hz (Or.inr (Or.inr (Or.inl q))), fun q3 => ?_⟩⟩⟩
  rintro o rfl
  refine ⟨D 30001 r, g4, ?_⟩
  rw [g6]
  refine ⟨fun q => hz (Or.inr (Or.inr (Or.inr q))), fun q4 => ?_⟩
  rintro o rfl
  refine ⟨D 30001 r, g4, ?_, ?_⟩
  · rw [g6]
    obtain ⟨j, hj, e⟩ := nI_of q3
    rw [e] at q4 ⊢
    have : j < cLn r := Nat.lt_of_not_le fun w => q4 (nI_le w hj)
    exact vp_in_nI this (by have := cLn_lt r; omega)
  · intro s es
    refine hq s ?_
    unfold cPut
    rw [if_neg (fun w => by rcases w with w | w | w | w; exact q1 w; exact q2 w; exact q3 w; exact q4 w)]
    exact h.setC hr rfl es
theorem q_addc (h : RC D σ S) {c r a : Nat} {x y v : Int32} (hr : cF r c = true) (A : AT D S 30000 r a) {Q : St → Prop} (hq : ∀ s, RC D s (cAdd r x y v S) → Q s) : w_X1_add a x y v σ Q := by
  obtain ⟨g1, g2, g3, g4, g5, g6, g7⟩ := h.2.2.2.2.1 r c hr
  rw [A.2] at g2 g3 g4
  have hz : (y < 0 ∨ nI (cWd r) ≤ y ∨ x * nI (cWd r) + y < 0 ∨ nI (cLn r) ≤ x * nI (cWd r) + y) → Q σ := fun q => hq σ (by unfold cAdd; rw [if_pos q]; exact h)
  unfold w_X1_add
  rw [g3]
  rintro x51 rfl
  refine ⟨fun q => hz (Or.inl q), fun q1 => ⟨fun q => hz (Or.inr (Or.inl q)), fun q2 => ⟨fun q => hz (Or.inr (Or.inr (Or.inl q))), fun q3 => ?_⟩⟩⟩
  rintro o rfl
  refine ⟨D 30001 r, g4, ?_⟩
  rw [g6]
  refine ⟨fun q => hz (Or.inr (Or.inr (Or.inr q))), fun q4 => ?_⟩
  rintro o rfl
  have hv : vp_in (x * nI (cWd r) + y) (cLn r) := by
    obtain ⟨j, hj, e⟩ := nI_of q3
    rw [e] at q4 ⊢
    have : j < cLn r := Nat.lt_of_not_le fun w => q4 (nI_le w hj)
    exact vp_in_nI this (by have := cLn_lt r; omega)
  refine ⟨D 30001 r, g4, by rw [g6]; exact hv, by rw [g6]; exact hv, ?_⟩
  intro s es
  rw [g7] at es
  refine hq s ?_
  unfold cAdd
  rw [if_neg (fun w => by rcases w with w | w | w | w; exact q1 w; exact q2 w; exact q3 w; exact q4 w)]
  exact h.setC hr rfl es
theorem RC.ls (h : RC D σ S) {f c t i a : Nat} (hf : lF f c t = true) (A : AT D S (10000 + f) i a) : i < zN S (lC f) ∧ (∃ e, LSTe σ a e ((zL S f i).map (D t)) ∧ sL σ e = zP S f i) ∧ ∀ j, j ∈ zL S f i → lv S t j := by
  have hi := (lF_k hf S i).mp A.1
  obtain ⟨g1, g2, g3, g4⟩ := h.2.2.2.1.1 f c t i hf hi
  rw [A.2] at g3
  exact ⟨hi, g3, g4⟩
theorem q_size (h : RC D σ S) {f c t i a : Nat} {v : Int32} (hf : lF f c t = true) (A : AT D S (10000 + f) i a) (e : v = nI (zL S f i).length) {Q : Int32 → St → Prop} (hq : Q v σ) : w_Jx4a65c_size_8abf5 a σ Q := by
  obtain ⟨-, ⟨e1, g1, -⟩, -⟩ := h.ls hf A
  refine ls_size g1 ?_
  rw [List.length_map, ← e]; exact hq
theorem q_isE (h : RC D σ S) {f c t i a : Nat} {v : Int32} (hf : lF f c t = true) (A : AT D S (10000 + f) i a) (e : v = if (zL S f i).length = 0 then 1 else 0) {Q : Int32 → St → Prop} (hq : Q v σ) : w_Jx4a65c_isEmpty_aae02 a σ Q := by
  obtain ⟨-, ⟨e1, g1, -⟩, -⟩ := h.ls hf A
  refine ls_isEmpty g1 ?_
  rw [List.length_map, ← e]; exact hq
theorem lAt_some {xs : List Nat} {x : Int32} {j : Nat} (e : lAt xs x = some j) : ∃ k : Nat, x = nI k ∧ x.toNatClampNeg = k ∧ k < 2 ^ 31 ∧ xs[k]? = some j := by
  unfold lAt at e
  split at e
  · cases e
  · rename_i q
    obtain ⟨k, hk, e2⟩ := nI_of q
    have e3 : x.toNatClampNeg = k := by rw [e2]; exact nI_clamp hk
    exact ⟨k, e2, e3, hk, by rw [← e3]; exact e⟩
theorem q_get (h : RC D σ S) {f c t i a j : Nat} {x : Int32} (hf : lF f c t = true) (A : AT D S (10000 + f) i a) (e : lAt (zL S f i) x = some j) {Q : Option Nat → St → Prop} (hq : ∀ b, AT D S t j b → Q (some b) σ) : w_Jx4a65c_get_915e3 a x σ Q := by
  obtain ⟨-, ⟨e1, g1, -⟩, g3⟩ := h.ls hf A
  obtain ⟨k, k1, k2, k3, k4⟩ := lAt_some e
  subst k1
  refine ls_get g1 (x := D t j) (by rw [List.getElem?_map, k4]; rfl) (hq _ ⟨g3 j (List.mem_of_getElem? k4), rfl⟩)
theorem q_ladd (h : RC D σ S) {f c t i a j b k n : Nat} (hf : lF f c t = true) (A : AT D S (10000 + f) i a) (B : AT D S t j b) (hc : (zL S f i).length = zP S f i → zP S f i < 2600) (hk : zN (pAdd f i j S) 61 ≤ zN S 61 + k) (hn : zN (pAdd f i j S) 62 ≤ zN S 62 + n) {Q : Int32 → St → Prop} (hq : ∀ s, RC D s (pAdd f i j S) → Q 1 s) : w_Jx4a65c_add_9ea2d k n a b σ Q := by
  obtain ⟨hi, ⟨e1, g1, g2⟩, g3⟩ := h.ls hf A
  have hm : (zL S f i ++ [j]).map (D t) = (zL S f i).map (D t) ++ [b] := by rw [List.map_append, ← B.2]; rfl
  have hl : ((zL S f i).map (D t)).length = (zL S f i).length := List.length_map ..
  have hmem : ∀ j', j' ∈ zL S f i ++ [j] → lv S t j' := fun j' hj => by
    rcases List.mem_append.mp hj with q | q
    · exact g3 j' q
    · rw [List.mem_singleton.mp q]; exact B.1
  by_cases hfull : (zL S f i).length = zP S f i
  · unfold pAdd at hk hn hq
    rw [if_pos hfull] at hk hn hq
    have hk1 : zN (pN 61 (zN S 61 + 1) (pN 62 (zN S 62 + capN (zP S f i)) (pL f i (zL S f i ++ [j]) (capN (zP S f i)) S))) 61 = zN S 61 + 1 := rfl
    have hn1 : zN (pN 61 (zN S 61 + 1) (pN 62 (zN S 62 + capN (zP S f i)) (pL f i (zL S f i ++ [j]) (capN (zP S f i)) S))) 62 = zN S 62 + capN (zP S f i) := rfl
    refine ls_add g1 (by rw [hl, g2]; exact hc) (by rw [hl, g2, if_pos hfull]; omega) (by rw [hl, g2, if_pos hfull]; omega) ?_
    intro e' τ p1 p2 p3 p4
    rw [hl, g2, if_pos hfull] at p3
    refine hq τ (RC.cost ?_ _ _)
    rw [← A.2] at p1 p2 g1
    exact h.lch hf hi g1.1 p1 (by rw [hm]; exact p2) hmem p3 p4
  · unfold pAdd at hk hn hq
    rw [if_neg hfull] at hk hn hq
    refine ls_add g1 (by rw [hl, g2]; exact hc) (by rw [hl, g2, if_neg hfull]; omega) (by rw [hl, g2, if_neg hfull]; omega) ?_
    intro e' τ p1 p2 p3 p4
    rw [hl, g2, if_neg hfull] at p3
    refine hq τ ?_
    rw [← A.2] at p1 p2 g1
    exact h.lch hf hi g1.1 p1 (by rw [hm]; exact p2) hmem p3 p4
theorem q_lins (h : RC D σ S) {f c t i a j b k n : Nat} {x : Int32} (hf : lF f c t = true) (A : AT D S (10000 + f) i a) (B : AT D S t j b) (hc : ((zL S f i).length = zP S f i → zP S f i < 2600) ∧ ¬ x < 0 ∧ x.toNatClampNeg ≤ (zL S f i).length) (hk : zN (pIns f i x.toNatClampNeg j S) 61 ≤ zN S 61 + k) (hn : zN (pIns f i x.toNatClampNeg j S) 62 ≤ zN S 62 + n) {Q : St → Prop} (hq : ∀ s, RC D s (pIns f i x.toNatClampNeg j S) → Q s) : w_Jx4a65c_add_7a177 k n a x b σ Q := by
  obtain ⟨hi, ⟨e1, g1, g2⟩, g3⟩ := h.ls hf A
  obtain ⟨y, hy, ey⟩ := nI_of hc.2.1
  subst ey
  rw [nI_clamp hy] at hc hk hn hq
  have hm : (lIns y j (zL S f i)).map (D t) = lIns y b ((zL S f i).map (D t)) := by rw [lIns_map, ← B.2]
  have hl : ((zL S f i).map (D t)).length = (zL S f i).length := List.length_map ..
  have hmem : ∀ j', j' ∈ lIns y j (zL S f i) → lv S t j' := fun j' hj => by
    unfold lIns at hj
    rcases List.mem_append.mp hj with q | q
    · exact g3 j' (List.mem_of_mem_take q)
    · rcases List.mem_cons.mp q with q | q
      · rw [q]; exact B.1
      · exact g3 j' (List.mem_of_mem_drop q)
  by_cases hfull : (zL S f i).length = zP S f i
  · unfold pIns at hk hn hq
    rw [if_pos hfull] at hk hn hq
    have hk1 : zN (pN 61 (zN S 61 + 1) (pN 62 (zN S 62 + capN (zP S f i)) (pL f i (lIns y j (zL S f i)) (capN (zP S f i)) S))) 61 = zN S 61 + 1 := rfl
    have hn1 : zN (pN 61 (zN S 61 + 1) (pN 62 (zN S 62 + capN (zP S f i)) (pL f i (lIns y j (zL S f i)) (capN (zP S f i)) S))) 62 = zN S 62 + capN (zP S f i) := rfl
    refine ls_addAt g1 (by rw [hl]; exact hc.2.2) (by rw [hl, g2]; exact hc.1) (by rw [hl, g2, if_pos hfull]; omega) (by rw [hl, g2, if_pos hfull]; omega) ?_
    intro e' τ p1 p2 p3 p4
    rw [hl, g2, if_pos hfull] at p3
    refine hq τ (RC.cost ?_ _ _)
    rw [← A.2] at p1 p2 g1
    exact h.lch hf hi g1.1 p1 (by rw [hm]; exact p2) hmem p3 p4
  · unfold pIns at hk hn hq
    rw [if_neg hfull] at hk hn hq
    refine ls_addAt g1 (by rw [hl]; exact hc.2.2) (by rw [hl, g2]; exact hc.1) (by rw [hl, g2, if_neg hfull]; omega) (by rw [hl, g2, if_neg hfull]; omega) ?_
    intro e' τ p1 p2 p3 p4
    rw [hl, g2, if_neg hfull] at p3
    refine hq τ ?_
    rw [← A.2] at p1 p2 g1
    exact h.lch hf hi g1.1 p1 (by rw [hm]; exact p2) hmem p3 p4
theorem q_lrem (h : RC D σ S) {f c t i a j : Nat} {x : Int32} (hf : lF f c t = true) (A : AT D S (10000 + f) i a) (e : lAt (zL S f i) x = some j) {Q : Option Nat → St → Prop} (hq : ∀ s b, RC D s (pRem f i x.toNatClampNeg S) → AT D S t j b → Q (some b) s) : w_Jx4a65c_remove_915e3 a x σ Q := by
  obtain ⟨hi, ⟨e1, g1, g2⟩, g3⟩ := h.ls hf A
  obtain ⟨k, k1, k2, k3, k4⟩ := lAt_some e
  subst k1
  rw [k2] at hq
  refine ls_remove g1 (y := D t j) (by rw [List.getElem?_map, k4]; rfl) ?_
  intro τ p1 p2 p3 p4
  refine hq τ _ ?_ ⟨g3 j (List.mem_of_getElem? k4), rfl⟩
  rw [← A.2] at p1 p2 g1
  refine h.lch hf hi g1.1 p1 (ys := (zL S f i).eraseIdx k) ?_ (fun j' hj => g3 j' (List.mem_of_mem_eraseIdx hj)) (p3.trans g2) (fun _ => p4)
  have hm : ((zL S f i).eraseIdx k).map (D t) = ((zL S f i).map (D t)).eraseIdx k := by
    refine List.ext_getElem? fun m => ?_
    rw [List.getElem?_map, List.getElem?_eraseIdx, List.getElem?_eraseIdx]
    split <;> rw [List.getElem?_map]
  rw [hm]; exact p2
theorem q_nl (h : RC D σ S) {i a k n : Nat} (hi : i = zN S 72) (A : AT D S 7 i a) (hk : zN (pNL i S) 61 ≤ zN S 61 + k) (hn : zN (pNL i S) 62 ≤ zN S 62 + n) {Q : St → Nat → Nat → Prop} (hq : ∀ D' s k1 n1, RC D' s (pNL i S) → DX S D D' → (∀ x, x ≤ zN S 61 + k → x ≤ zN (pNL i S) 61 + k1) → (∀ x, x ≤ zN S 62 + n → x ≤ zN (pNL i S) 62 + n1) → Q s k1 n1) : ∃ k51 n52 : Nat, k51 + 1 = k ∧ n52 + 3 = n ∧ ∀ (a55 : Nat) (s56 : St), sK σ a55 = 0 → s56 = newO 30 a55 σ → w_Jx4a65c_init_da8c8 a55 s56 (fun s58 => ∀ s59 : St, s59 = setR 704 a (some a55) s58 → Q s59 k51 n52) := by
  have hk1 : zN (pNL i S) 61 = zN S 61 + 1 := rfl
  have hn1 : zN (pNL i S) 62 = zN S 62 + 3 := rfl
  refine ⟨k - 1, n - 3, by omega, by omega, ?_⟩
  rintro q s hq0 rfl
  unfold w_Jx4a65c_init_da8c8 w_Jxc12de_init_da8c8 w_Jxa1e45_init_da8c8
  rintro s rfl
  intro d0 hd
  rintro s rfl
  rintro s rfl
  obtain ⟨D', h1, h2⟩ := h.nlist hi A hq0 hd rfl
  exact hq D' _ _ _ h1 h2 (fun x hx => by omega) (fun x hx => by omega)
theorem q_new (h : RC D σ S) {c n k m : Nat} (hc : c = 2 ∨ c = 4 ∨ c = 5 ∨ c = 6 ∨ c = 7 ∨ c = 10) {S' : Ss} (L : zle (pNew c n S) S') (hk : zN S' 61 ≤ zN S 61 + k) (hn : zN S' 62 ≤ zN S 62 + m) : ∃ k1 n1, k1 + 1 = k ∧ n1 + n = m ∧ zN S' 61 ≤ zN (pNew c n S) 61 + k1 ∧ zN S' 62 ≤ zN (pNew c n S) 62 + n1 := by
  have h1 := L 61
  have h2 := L 62
  have e1 : zN (pNew c n S) 61 = zN S 61 + 1 := by
    show (if 61 = c then zN S c + 1 else if 61 = 61 then zN S 61 + 1 else if 61 = 62 then zN S 62 + n else zN S 61) = _
    rw [if_neg (by omega), if_pos rfl]
  have e2 : zN (pNew c n S) 62 = zN S 62 + n := by
    show (if 62 = c then zN S c + 1 else if 62 = 61 then zN S 61 + 1 else if 62 = 62 then zN S 62 + n else zN S 62) = _
    rw [if_neg (by omega), if_neg (by decide), if_pos rfl]
  exact ⟨k - 1, m - n, by omega, by omega, by omega, by omega⟩
end
