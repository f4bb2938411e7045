/-! THE CLASS WITHOUT ADDRESSES: a store by numbers of things. zA: int fields, zO: references, zL: lists, zP: their room, zC: tables, zM: the moves; zN: how many there are of each kind; 60 the length of the moves, 61 and 62 cells and slots that were used, 72 how many orders have their lines -/
abbrev Ss : Type := (Nat → Nat → Int32) × (Nat → Nat → Option Nat) × (Nat → Nat → List Nat) × (Nat → Nat → Nat) × (Nat → Nat → Int32) × (Nat → Int32) × (Nat → Nat)
def zA (S : Ss) : Nat → Nat → Int32 := S.1
def zO (S : Ss) : Nat → Nat → Option Nat := S.2.1
def zL (S : Ss) : Nat → Nat → List Nat := S.2.2.1
def zP (S : Ss) : Nat → Nat → Nat := S.2.2.2.1
def zC (S : Ss) : Nat → Nat → Int32 := S.2.2.2.2.1
def zM (S : Ss) : Nat → Int32 := S.2.2.2.2.2.1
def zN (S : Ss) : Nat → Nat := S.2.2.2.2.2.2
def pA (f i : Nat) (v : Int32) (S : Ss) : Ss := (u2 f i v (zA S), zO S, zL S, zP S, zC S, zM S, zN S)
def pO (f i : Nat) (v : Option Nat) (S : Ss) : Ss := (zA S, u2 f i v (zO S), zL S, zP S, zC S, zM S, zN S)
def pL (f i : Nat) (xs : List Nat) (c : Nat) (S : Ss) : Ss := (zA S, zO S, u2 f i xs (zL S), u2 f i c (zP S), zC S, zM S, zN S)
def pC (r j : Nat) (v : Int32) (S : Ss) : Ss := (zA S, zO S, zL S, zP S, u2 r j v (zC S), zM S, zN S)
def pM (m : Nat → Int32) (S : Ss) : Ss := (zA S, zO S, zL S, zP S, zC S, m, zN S)
def pN (c v : Nat) (S : Ss) : Ss := (zA S, zO S, zL S, zP S, zC S, zM S, u1 c v (zN S))
/-- kinds of references, lists, tables, arrays -/
def rF (f c t : Nat) : Bool := match f with
  | 200 => c == 2 && t == 7
  | 201 => c == 2 && t == 4
  | 203 => c == 2 && t == 5
  | 205 => c == 2 && t == 10
  | 400 => c == 4 && t == 3
  | 501 => c == 5 && t == 3
  | 600 => c == 6 && t == 3
  | 902 => c == 9 && t == 3
  | 1002 => c == 10 && t == 2
  | _ => false
def lF (f c t : Nat) : Bool := match f with
  | 704 => c == 7 && t == 4
  | 800 => c == 8 && t == 10
  | 1103 => c == 11 && t == 5
  | 1104 => c == 11 && t == 5
  | 1105 => c == 11 && t == 6
  | 1106 => c == 11 && t == 7
  | 1107 => c == 11 && t == 2
  | 1108 => c == 11 && t == 10
  | _ => false
def lC (f : Nat) : Nat := if f = 704 then 72 else f / 100
def cF (r c : Nat) : Bool := match r with
  | 0 => c == 0
  | 1 => c == 0
  | 2 => c == 0
  | 3 => c == 0
  | 4 => c == 0
  | 5 => c == 0
  | 1110 => c == 11
  | 1111 => c == 11
  | 1112 => c == 11
  | 1113 => c == 11
  | _ => false
def cWd (r : Nat) : Nat := match r with
  | 1 => 6
  | 4 => 6
  | 1112 => 6
  | 1113 => 4
  | _ => 12
def cLn (r : Nat) : Nat := match r with
  | 0 => 336
  | 1 => 168
  | 2 => 336
  | 3 => 336
  | 4 => 108
  | 5 => 216
  | 1110 => 96
  | 1111 => 96
  | 1112 => 48
  | 1113 => 1188
  | _ => 0
def aF (f t : Nat) : Bool := match f with
  | 1100 => t == 9
  | 1101 => t == 3
  | 1102 => t == 8
  | _ => false
def aLn (f : Nat) : Nat := match f with
  | 1100 => 18
  | 1101 => 6
  | 1102 => 3
  | _ => 0
def lv (S : Ss) (c i : Nat) : Prop := if c < 12 then i < zN S c else if c < 20000 then i < zN S (lC (c - 10000)) else True
def zle (S S' : Ss) : Prop := ∀ c, zN S c ≤ zN S' c
theorem zle.rf (S : Ss) : zle S S := fun _ => Nat.le_refl _
theorem zle.tr {S S' S'' : Ss} (h : zle S S') (g : zle S' S'') : zle S S'' := fun c => Nat.le_trans (h c) (g c)
theorem lv.mono {S S' : Ss} {c i : Nat} (h : lv S c i) (L : zle S S') : lv S' c i := by
  unfold lv at *
  split
  · rename_i q; rw [if_pos q] at h; exact Nat.lt_of_lt_of_le h (L _)
  · rename_i q; rw [if_neg q] at h
    split
    · rename_i q2; rw [if_pos q2] at h; exact Nat.lt_of_lt_of_le h (L _)
    · trivial
def AT (D : Nat → Nat → Nat) (S : Ss) (c i a : Nat) : Prop := lv S c i ∧ D c i = a
def ATo (D : Nat → Nat → Nat) (S : Ss) (c : Nat) (r o : Option Nat) : Prop := o = r.map (D c) ∧ ∀ j, r = some j → lv S c j
def DX (S : Ss) (D D' : Nat → Nat → Nat) : Prop := ∀ c i, lv S c i → D' c i = D c i
theorem DX.rf (S : Ss) (D : Nat → Nat → Nat) : DX S D D := fun _ _ _ => rfl
theorem DX.tr {S S' : Ss} {D D' D'' : Nat → Nat → Nat} (h : DX S D D') (L : zle S S') (g : DX S' D' D'') : DX S D D'' := fun c i hi => (g c i (hi.mono L)).trans (h c i hi)
theorem AT.up {D D' : Nat → Nat → Nat} {S S' : Ss} {c i a : Nat} (h : AT D S c i a) (L : zle S S') (X : DX S D D') : AT D' S' c i a := ⟨h.1.mono L, (X c i h.1).trans h.2⟩
theorem ATo.up {D D' : Nat → Nat → Nat} {S S' : Ss} {c : Nat} {r o : Option Nat} (h : ATo D S c r o) (L : zle S S') (X : DX S D D') : ATo D' S' c r o := by
  refine ⟨?_, fun j hj => (h.2 j hj).mono L⟩
  rw [h.1]
  cases r with
  | none => rfl
  | some j => show some (D c j) = some (D' c j); rw [X c j (h.2 j rfl)]
theorem AT.sm {D : Nat → Nat → Nat} {S : Ss} {c i a : Nat} (h : AT D S c i a) : ATo D S c (some i) (some a) := ⟨by rw [← h.2]; rfl, fun j hj => by cases hj; exact h.1⟩
theorem ATo.nn {D : Nat → Nat → Nat} {S : Ss} {c : Nat} : ATo D S c none none := ⟨rfl, fun j hj => by cases hj⟩
theorem ATo.no {D : Nat → Nat → Nat} {S : Ss} {c : Nat} {r o : Option Nat} (h : ATo D S c r o) (ho : o = none) : r = none := by
  cases r with
  | none => rfl
  | some j => rw [h.1] at ho; cases ho
theorem ATo.so {D : Nat → Nat → Nat} {S : Ss} {c i : Nat} {r o : Option Nat} (h : ATo D S c r o) (hr : r = some i) : ∃ a, o = some a ∧ AT D S c i a := ⟨D c i, by rw [h.1, hr]; rfl, h.2 i hr, rfl⟩
theorem ATo.sa {D : Nat → Nat → Nat} {S : Ss} {c a : Nat} {r o : Option Nat} (h : ATo D S c r o) (ho : o = some a) : ∃ i, r = some i ∧ AT D S c i a := by
  cases r with
  | none => rw [h.1] at ho; cases ho
  | some j => rw [h.1] at ho; exact ⟨j, rfl, h.2 j rfl, Option.some.inj ho⟩
/-! the store and the numbers -/
def RCk (D : Nat → Nat → Nat) (σ : St) (S : Ss) : Prop :=
  (∀ c i, c < 12 → i < zN S c → sK σ (D c i) = c + 1) ∧
  (∀ c i j, c < 12 → i < zN S c → j < zN S c → D c i = D c j → i = j) ∧
  (zN S 0 = 1 ∧ zN S 11 = 1 ∧ zN S 9 = 18 ∧ zN S 3 = 6 ∧ zN S 8 = 3 ∧ zN S 1 = 0) ∧
  sR σ 1109 (D 11 0) = some (D 0 0) ∧
  (∀ f t, aF f t = true → sR σ f (D 11 0) = some (D 20000 f) ∧ (24 ≤ sK σ (D 20000 f) ∧ sK σ (D 20000 f) ≤ 26) ∧ sL σ (D 20000 f) = aLn f ∧ ∀ j, j < aLn f → sQ σ (D 20000 f) j = some (D t j)) ∧
  (sK σ (D 40000 0) = 50 ∧ sL σ (D 40000 0) = 0 ∧ sC σ (D 40000 0) % 2 = 1)
def RCi (D : Nat → Nat → Nat) (σ : St) (S : Ss) : Prop := ∀ f c i, c < 12 → f / 100 = c → i < zN S c → sI σ f (D c i) = zA S f i
def RCr (D : Nat → Nat → Nat) (σ : St) (S : Ss) : Prop := ∀ f c t i, rF f c t = true → i < zN S c → ATo D S t (zO S f i) (sR σ f (D c i))
def RCl (D : Nat → Nat → Nat) (σ : St) (S : Ss) : Prop :=
  (∀ f c t i, lF f c t = true → i < zN S (lC f) → i < zN S c ∧ sR σ f (D c i) = some (D (10000 + f) i) ∧ (∃ e, LSTe σ (D (10000 + f) i) e ((zL S f i).map (D t)) ∧ sL σ e = zP S f i) ∧ ∀ j, j ∈ zL S f i → lv S t j) ∧
  (∀ f c t i f' c' t' i', lF f c t = true → lF f' c' t' = true → i < zN S (lC f) → i' < zN S (lC f') → D (10000 + f) i = D (10000 + f') i' → f = f' ∧ i = i') ∧
  (∀ f c t i f' c' t' i', lF f c t = true → lF f' c' t' = true → i < zN S (lC f) → i' < zN S (lC f') → sR σ 1301 (D (10000 + f) i) = sR σ 1301 (D (10000 + f') i') → (f = f' ∧ i = i') ∨ zP S f i = 0)
def RCc (D : Nat → Nat → Nat) (σ : St) (S : Ss) : Prop :=
  (∀ r c, cF r c = true → sR σ r (D c 0) = some (D 30000 r) ∧ sK σ (D 30000 r) = 2 ∧ sI σ 100 (D 30000 r) = nI (cWd r) ∧ sR σ 101 (D 30000 r) = some (D 30001 r) ∧ sK σ (D 30001 r) = 20 ∧ sL σ (D 30001 r) = cLn r ∧ ∀ j, sA σ (D 30001 r) j = zC S r j) ∧
  (∀ r c r' c', cF r c = true → cF r' c' = true → D 30001 r = D 30001 r' → r = r') ∧
  (∃ m, sR σ 6 (D 0 0) = some m ∧ sK σ m = 20 ∧ sL σ m = zN S 60 ∧ (∀ j, sA σ m j = zM S j) ∧ ∀ r c, cF r c = true → m ≠ D 30001 r)
def RC (D : Nat → Nat → Nat) (σ : St) (S : Ss) : Prop := RCk D σ S ∧ RCi D σ S ∧ RCr D σ S ∧ RCl D σ S ∧ RCc D σ S
theorem rF_c {f c t : Nat} (h : rF f c t = true) : f / 100 = c ∧ c < 12 ∧ t < 12 ∧ c ≠ 11 ∧ c ≠ 0 ∧ f ≠ 101 ∧ f ≠ 1301 := by
  unfold rF at h
  split at h <;> simp_all
theorem lF_c {f c t : Nat} (h : lF f c t = true) : f / 100 = c ∧ c < 12 ∧ t < 12 ∧ f < 1301 ∧ f ≠ 101 := by
  unfold lF at h
  split at h <;> simp_all
theorem lF_k {f c t : Nat} (h : lF f c t = true) (S : Ss) (i : Nat) : lv S (10000 + f) i ↔ i < zN S (lC f) := by
  have := (lF_c h).2.2.2.1
  unfold lv
  rw [if_neg (by omega), if_pos (by omega), Nat.add_sub_cancel_left]
theorem lF_u {f c t c' t' : Nat} (h : lF f c t = true) (g : lF f c' t' = true) : c = c' ∧ t = t' := by
  unfold lF at h g
  split at h <;> simp_all
theorem rF_u {f c t c' t' : Nat} (h : rF f c t = true) (g : rF f c' t' = true) : c = c' ∧ t = t' := by
  unfold rF at h g
  split at h <;> simp_all
theorem cF_c {r c : Nat} (h : cF r c = true) : r / 100 = c ∧ (c = 0 ∨ c = 11) ∧ r ≠ 101 ∧ r ≠ 6 ∧ r ≠ 1301 := by
  unfold cF at h
  split at h <;> simp_all
theorem aF_c {f t : Nat} (h : aF f t = true) : f / 100 = 11 ∧ f < 1103 ∧ 1100 ≤ f ∧ t < 12 ∧ aLn f < 20 := by
  unfold aF at h
  split at h <;> simp_all [aLn]
theorem lv_o {S : Ss} {c i : Nat} (hc : c < 12) : lv S c i ↔ i < zN S c := by unfold lv; rw [if_pos hc]
theorem lv_t {S : Ss} {c i : Nat} (hc : 20000 ≤ c) : lv S c i := by unfold lv; rw [if_neg (by omega), if_neg (by omega)]; trivial
theorem aF_n {f t : Nat} {S : Ss} {D : Nat → Nat → Nat} {σ : St} (h : RCk D σ S) (g : aF f t = true) : zN S t = aLn f := by
  obtain ⟨-, -, ⟨h0, h1, h2, h3, h4, h5⟩, -⟩ := h
  unfold aF at g
  split at g <;> simp_all [aLn]
