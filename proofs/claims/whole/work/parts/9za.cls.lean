/-! the class's constructor: the store as a list of cells -/
abbrev Cell : Type := Nat × (Nat → Int32) × (Nat → Option Nat) × (Nat → Int32) × Nat × (Nat → Option Nat)
def cel (σ : St) (a : Nat) : Cell := (sK σ a, fun f => sI σ f a, fun f => sR σ f a, sA σ a, sL σ a, sQ σ a)
def cO (κ : Nat) : Cell := (κ, fun _ => 0, fun _ => none, fun _ => 0, 0, fun _ => none)
def cN (κ n : Nat) : Cell := (κ, fun _ => 0, fun _ => none, fun _ => 0, n, fun _ => none)
def cI (f : Nat) (v : Int32) (c : Cell) : Cell := (c.1, u1 f v c.2.1, c.2.2)
def cR (f : Nat) (v : Option Nat) (c : Cell) : Cell := (c.1, c.2.1, u1 f v c.2.2.1, c.2.2.2)
def cQ (j : Nat) (v : Option Nat) (c : Cell) : Cell := (c.1, c.2.1, c.2.2.1, c.2.2.2.1, c.2.2.2.2.1, u1 j v c.2.2.2.2.2)
def HVC (C : Nat → Nat) (σ : St) (n : Nat) (ad : Nat → Nat) (ce : Nat → Cell) : Prop := (∀ i, i < n → cel σ (ad i) = ce i ∧ ¬ (ce i).1 = 0) ∧ (∀ i j, i < n → j < n → ad i = ad j → i = j) ∧ (∀ a, sK σ a = 0 → cel σ a = cO 0) ∧ sC σ = C
theorem cel_eq {σ τ : St} {a : Nat} (hk : sK τ a = sK σ a) (h : cEq σ τ a) : cel τ a = cel σ a := by
  obtain ⟨h1, h2, h3, h4, h5, -⟩ := h
  unfold cel
  rw [hk, h3, h4, h5]
  simp only [h1, h2]
section
variable {C : Nat → Nat} {σ s : St} {n : Nat} {ad : Nat → Nat} {ce : Nat → Cell}
theorem HVC.k (h : HVC C σ n ad ce) {i : Nat} (hi : i < n) : sK σ (ad i) = (ce i).1 := congrArg (fun c : Cell => c.1) (h.1 i hi).1
theorem HVC.i (h : HVC C σ n ad ce) {i : Nat} (hi : i < n) (f : Nat) : sI σ f (ad i) = (ce i).2.1 f := congrFun (congrArg (fun c : Cell => c.2.1) (h.1 i hi).1) f
theorem HVC.r (h : HVC C σ n ad ce) {i : Nat} (hi : i < n) (f : Nat) : sR σ f (ad i) = (ce i).2.2.1 f := congrFun (congrArg (fun c : Cell => c.2.2.1) (h.1 i hi).1) f
theorem HVC.a (h : HVC C σ n ad ce) {i : Nat} (hi : i < n) : sA σ (ad i) = (ce i).2.2.2.1 := congrArg (fun c : Cell => c.2.2.2.1) (h.1 i hi).1
theorem HVC.l (h : HVC C σ n ad ce) {i : Nat} (hi : i < n) : sL σ (ad i) = (ce i).2.2.2.2.1 := congrArg (fun c : Cell => c.2.2.2.2.1) (h.1 i hi).1
theorem HVC.q (h : HVC C σ n ad ce) {i : Nat} (hi : i < n) (j : Nat) : sQ σ (ad i) j = (ce i).2.2.2.2.2 j := congrFun (congrArg (fun c : Cell => c.2.2.2.2.2) (h.1 i hi).1) j
theorem HVC.new (h : HVC C σ n ad ce) {q : Nat} {v : Cell} (hq : sK σ q = 0) (hk : ∀ b, b ≠ q → sK s b = sK σ b) (hc : ∀ b, b ≠ q → cEq σ s b) (hC : sC s = sC σ) (hv : cel s q = v) (h0 : ¬ v.1 = 0) : HVC C s (n + 1) (u1 n q ad) (u1 n v ce) := by
  have ne : ∀ i, i < n → ad i ≠ q := fun i hi r => (h.1 i hi).2 (by rw [← h.k hi, r]; exact hq)
  have un : ∀ i, i < n → u1 n q ad i = ad i := fun i hi => if_neg (by omega)
  have uc : ∀ i, i < n → u1 n v ce i = ce i := fun i hi => if_neg (by omega)
  have an : u1 n q ad n = q := if_pos rfl
  have ac : u1 n v ce n = v := if_pos rfl
  refine ⟨fun i hi => ?_, fun i j hi hj e => ?_, fun a ha => ?_, hC.trans h.2.2.2⟩
  · by_cases e : i < n
    · rw [un i e, uc i e, cel_eq (hk _ (ne i e)) (hc _ (ne i e))]
      exact h.1 i e
    · have : i = n := by omega
      rw [this, an, ac]
      exact ⟨hv, h0⟩
  · by_cases e1 : i < n
    · by_cases e2 : j < n
      · rw [un i e1, un j e2] at e; exact h.2.1 i j e1 e2 e
      · have : j = n := by omega
        rw [this, an, un i e1] at e
        exact absurd e (ne i e1)
    · have e3 : i = n := by omega
      by_cases e2 : j < n
      · rw [e3, an, un j e2] at e
        exact absurd e.symm (ne j e2)
      · omega
  · have aq : a ≠ q := fun r => h0 (by rw [← hv, ← r]; exact ha)
    rw [cel_eq (hk a aq) (hc a aq)]
    exact h.2.2.1 a (by rw [← hk a aq]; exact ha)
theorem HVC.newO (h : HVC C σ n ad ce) {κ q : Nat} (hq : sK σ q = 0) (h0 : ¬ κ = 0) (e : s = newO κ q σ) : HVC C s (n + 1) (u1 n q ad) (u1 n (cO κ) ce) := by
  subst e
  have z := h.2.2.1 q hq
  have zA : sA σ q = fun _ => 0 := congrArg (fun c : Cell => c.2.2.2.1) z
  have zL : sL σ q = 0 := congrArg (fun c : Cell => c.2.2.2.2.1) z
  have zQ : sQ σ q = fun _ => none := congrArg (fun c : Cell => c.2.2.2.2.2) z
  exact h.new hq (fun b hb => if_neg hb) (fun b hb => cEq_newO κ q σ hb) rfl (Prod.ext (if_pos rfl) (Prod.ext (funext fun _ => if_pos rfl) (Prod.ext (funext fun _ => if_pos rfl) (Prod.ext zA (Prod.ext zL zQ))))) h0
theorem HVC.newA (h : HVC C σ n ad ce) {κ q len len' : Nat} (hq : sK σ q = 0) (h0 : ¬ κ = 0) (e : s = newA κ q len σ) (hl : len = len') : HVC C s (n + 1) (u1 n q ad) (u1 n (cN κ len') ce) := by
  subst hl
  subst e
  have z := h.2.2.1 q hq
  have zI : (fun f => sI σ f q) = fun _ => 0 := congrArg (fun c : Cell => c.2.1) z
  have zR : (fun f => sR σ f q) = fun _ => none := congrArg (fun c : Cell => c.2.2.1) z
  exact h.new hq (fun b hb => if_neg hb) (fun b hb => cEq_newA κ q len σ hb) rfl (Prod.ext (if_pos rfl) (Prod.ext zI (Prod.ext zR (Prod.ext (funext fun _ => if_pos rfl) (Prod.ext (if_pos rfl) (funext fun _ => if_pos rfl)))))) h0
theorem HVC.set (h : HVC C σ n ad ce) {i : Nat} {v : Cell} (hi : i < n) (hk : sK s = sK σ) (hc : ∀ b, b ≠ ad i → cEq σ s b) (hC : sC s = sC σ) (hv : cel s (ad i) = v) : HVC C s n ad (u1 i v ce) := by
  have v1 : v.1 = (ce i).1 := by
    rw [← hv, ← h.k hi]
    exact congrFun hk (ad i)
  refine ⟨fun j hj => ?_, h.2.1, fun a ha => ?_, hC.trans h.2.2.2⟩
  · by_cases e : j = i
    · subst e
      have : u1 j v ce j = v := if_pos rfl
      rw [this, v1]
      exact ⟨hv, (h.1 j hi).2⟩
    · have : u1 i v ce j = ce j := if_neg e
      rw [this, cel_eq (congrFun hk _) (hc _ fun r => e (h.2.1 j i hj hi r))]
      exact h.1 j hj
  · rw [hk] at ha
    have an : a ≠ ad i := fun r => (h.1 i hi).2 (by rw [← h.k hi, ← r]; exact ha)
    rw [cel_eq (congrFun hk _) (hc _ an)]
    exact h.2.2.1 a ha
theorem HVC.setI (h : HVC C σ n ad ce) {i f a : Nat} {v : Int32} (hi : i < n) (ea : ad i = a) (e : s = setI f a v σ) : HVC C s n ad (u1 i (cI f v (ce i)) ce) := by
  subst e; subst ea
  refine h.set hi rfl (fun b hb => cEq_setI f _ v σ hb) rfl ?_
  rw [← (h.1 i hi).1]
  refine Prod.ext rfl (Prod.ext (funext fun g => ?_) rfl)
  show (if g = f ∧ ad i = ad i then v else sI σ g (ad i)) = if g = f then v else sI σ g (ad i)
  by_cases r : g = f
  · rw [if_pos r, if_pos ⟨r, rfl⟩]
  · rw [if_neg r, if_neg (fun y => r y.1)]
theorem HVC.setR (h : HVC C σ n ad ce) {i f a : Nat} {v : Option Nat} (hi : i < n) (ea : ad i = a) (e : s = setR f a v σ) : HVC C s n ad (u1 i (cR f v (ce i)) ce) := by
  subst e; subst ea
  refine h.set hi rfl (fun b hb => cEq_setR f _ v σ hb) rfl ?_
  rw [← (h.1 i hi).1]
  refine Prod.ext rfl (Prod.ext rfl (Prod.ext (funext fun g => ?_) rfl))
  show (if g = f ∧ ad i = ad i then v else sR σ g (ad i)) = if g = f then v else sR σ g (ad i)
  by_cases r : g = f
  · rw [if_pos r, if_pos ⟨r, rfl⟩]
  · rw [if_neg r, if_neg (fun y => r y.1)]
theorem HVC.setQ (h : HVC C σ n ad ce) {i j a : Nat} {v : Option Nat} (hi : i < n) (ea : ad i = a) (e : s = setQ a j v σ) : HVC C s n ad (u1 i (cQ j v (ce i)) ce) := by
  subst e; subst ea
  refine h.set hi rfl (fun b hb => cEq_setQ _ j v σ hb) rfl ?_
  rw [← (h.1 i hi).1]
  refine Prod.ext rfl (Prod.ext rfl (Prod.ext rfl (Prod.ext rfl (Prod.ext rfl (funext fun g => ?_)))))
  show (if ad i = ad i ∧ g = j then v else sQ σ (ad i) g) = if g = j then v else sQ σ (ad i) g
  by_cases r : g = j
  · rw [if_pos r, if_pos ⟨rfl, r⟩]
  · rw [if_neg r, if_neg (fun y => r y.2)]
theorem q_lst {a d0 : Nat} {Q : St → Prop} (hC : ∀ b, sC s b % 2 = 1 ↔ b = d0) (H : ∀ t, t = setR 1301 a (some d0) (setI 1300 a 0 s) → Q t) : w_Jx4a65c_init_da8c8 a s Q := by
  unfold w_Jx4a65c_init_da8c8 w_Jxc12de_init_da8c8 w_Jxa1e45_init_da8c8
  intro t et a53 ha u eu
  have e : a53 = d0 := by
    rw [et] at ha
    exact (hC a53).mp ((ha a53).mpr rfl)
  rw [e, et] at eu
  exact H u eu
theorem q_tab {a len : Nat} {x w : Int32} {Q : St → Prop} (h0 : ¬ (if 0 < (x * w) then (x * w) else 0) < 0) (hl : (if 0 < (x * w) then (x * w) else 0).toNatClampNeg = len) (hl2 : len ≤ 60000000) (H : ∀ b s2 t, sK (setI 100 a w s) b = 0 → s2 = newA 20 b len (setI 100 a w s) → t = setR 101 a (some b) s2 → Q t) : w_X1_init 1 len a x w s Q := by
  unfold w_X1_init
  subst hl
  intro t et
  refine ⟨h0, hl2, 0, 0, rfl, Nat.zero_add _, fun b s2 hb e2 t2 et2 => ?_⟩
  subst et
  exact H b s2 t2 hb e2 et2
end

def HA (ad : Nat → Nat) (ce : Nat → Cell) : Prop := (ce 0).1 = 50 ∧ (ce 0).2.2.2.2.1 = 0 ∧ (ce 1).1 = 12 ∧ (∀ f, (ce 1).2.1 f = 0) ∧ (ce 1).2.2.1 1100 = some (ad 2) ∧ (ce 1).2.2.1 1101 = some (ad 3) ∧ (ce 1).2.2.1 1102 = some (ad 4) ∧ (ce 1).2.2.1 1103 = some (ad 5) ∧ (ce 1).2.2.1 1104 = some (ad 6) ∧ (ce 1).2.2.1 1105 = some (ad 7) ∧ (ce 1).2.2.1 1106 = some (ad 8) ∧ (ce 1).2.2.1 1107 = some (ad 9) ∧ (ce 1).2.2.1 1108 = some (ad 10) ∧ (ce 1).2.2.1 1109 = some (ad 11) ∧ (ce 1).2.2.1 1110 = some (ad 25) ∧ (ce 1).2.2.1 1111 = some (ad 27) ∧ (ce 1).2.2.1 1112 = some (ad 29) ∧ (ce 1).2.2.1 1113 = some (ad 31) ∧ (ce 5).1 = 30 ∧ (ce 5).2.2.1 1301 = some (ad 0) ∧ (ce 5).2.1 1302 = 0 ∧ (ce 6).1 = 30 ∧ (ce 6).2.2.1 1301 = some (ad 0) ∧ (ce 6).2.1 1302 = 0 ∧ (ce 7).1 = 30 ∧ (ce 7).2.2.1 1301 = some (ad 0) ∧ (ce 7).2.1 1302 = 0 ∧ (ce 8).1 = 30 ∧ (ce 8).2.2.1 1301 = some (ad 0) ∧ (ce 8).2.1 1302 = 0 ∧ (ce 9).1 = 30 ∧ (ce 9).2.2.1 1301 = some (ad 0) ∧ (ce 9).2.1 1302 = 0 ∧ (ce 10).1 = 30 ∧ (ce 10).2.2.1 1301 = some (ad 0) ∧ (ce 10).2.1 1302 = 0 ∧ (ce 11).1 = 1 ∧ (∀ f, (ce 11).2.1 f = 0) ∧ (ce 11).2.2.1 0 = some (ad 12) ∧ (ce 11).2.2.1 1 = some (ad 14) ∧ (ce 11).2.2.1 2 = some (ad 16) ∧ (ce 11).2.2.1 3 = some (ad 18) ∧ (ce 11).2.2.1 4 = some (ad 20) ∧ (ce 11).2.2.1 5 = some (ad 22) ∧ (ce 11).2.2.1 6 = some (ad 24) ∧ (ce 12).1 = 2 ∧ (ce 12).2.1 100 = 12 ∧ (ce 12).2.2.1 101 = some (ad 13) ∧ (ce 13).1 = 20 ∧ (ce 13).2.2.2.2.1 = 336 ∧ (ce 13).2.2.2.1 = (fun _ => 0) ∧ (ce 14).1 = 2 ∧ (ce 14).2.1 100 = 6 ∧ (ce 14).2.2.1 101 = some (ad 15) ∧ (ce 15).1 = 20 ∧ (ce 15).2.2.2.2.1 = 168 ∧ (ce 15).2.2.2.1 = (fun _ => 0) ∧ (ce 16).1 = 2 ∧ (ce 16).2.1 100 = 12 ∧ (ce 16).2.2.1 101 = some (ad 17) ∧ (ce 17).1 = 20 ∧ (ce 17).2.2.2.2.1 = 336 ∧ (ce 17).2.2.2.1 = (fun _ => 0) ∧ (ce 18).1 = 2 ∧ (ce 18).2.1 100 = 12 ∧ (ce 18).2.2.1 101 = some (ad 19) ∧ (ce 19).1 = 20 ∧ (ce 19).2.2.2.2.1 = 336 ∧ (ce 19).2.2.2.1 = (fun _ => 0) ∧ (ce 20).1 = 2 ∧ (ce 20).2.1 100 = 6 ∧ (ce 20).2.2.1 101 = some (ad 21) ∧ (ce 21).1 = 20 ∧ (ce 21).2.2.2.2.1 = 108 ∧ (ce 21).2.2.2.1 = (fun _ => 0) ∧ (ce 22).1 = 2 ∧ (ce 22).2.1 100 = 12 ∧ (ce 22).2.2.1 101 = some (ad 23) ∧ (ce 23).1 = 20 ∧ (ce 23).2.2.2.2.1 = 216 ∧ (ce 23).2.2.2.1 = (fun _ => 0) ∧ (ce 25).1 = 2 ∧ (ce 25).2.1 100 = 12 ∧ (ce 25).2.2.1 101 = some (ad 26) ∧ (ce 26).1 = 20 ∧ (ce 26).2.2.2.2.1 = 96 ∧ (ce 26).2.2.2.1 = (fun _ => 0) ∧ (ce 27).1 = 2 ∧ (ce 27).2.1 100 = 12 ∧ (ce 27).2.2.1 101 = some (ad 28) ∧ (ce 28).1 = 20 ∧ (ce 28).2.2.2.2.1 = 96 ∧ (ce 28).2.2.2.1 = (fun _ => 0) ∧ (ce 29).1 = 2 ∧ (ce 29).2.1 100 = 6 ∧ (ce 29).2.2.1 101 = some (ad 30) ∧ (ce 30).1 = 20 ∧ (ce 30).2.2.2.2.1 = 48 ∧ (ce 30).2.2.2.1 = (fun _ => 0) ∧ (ce 31).1 = 2 ∧ (ce 31).2.1 100 = 4 ∧ (ce 31).2.2.1 101 = some (ad 32) ∧ (ce 32).1 = 20 ∧ (ce 32).2.2.2.2.1 = 1188 ∧ (ce 32).2.2.2.1 = (fun _ => 0) ∧ (ce 24).1 = 20 ∧ (ce 24).2.2.2.2.1 = 128 ∧ (ce 24).2.2.2.1 = fun _ => 0

def HB (ce : Nat → Cell) : Prop := (ce 2).1 = 24 ∧ (ce 2).2.2.2.2.1 = 18 ∧ (ce 3).1 = 25 ∧ (ce 3).2.2.2.2.1 = 6 ∧ (ce 4).1 = 26 ∧ (ce 4).2.2.2.2.1 = 3

theorem HA.up {ad ad0 : Nat → Nat} {ce ce0 : Nat → Cell} (h : HA ad0 ce0) (ha : ∀ j, j < 33 → ad j = ad0 j) (hc : ∀ j, j < 33 → j ≠ 2 → j ≠ 3 → j ≠ 4 → ce j = ce0 j) : HA ad ce := by
  have c0 := hc 0 (by decide) (by decide) (by decide) (by decide)
  have c1 := hc 1 (by decide) (by decide) (by decide) (by decide)
  have c5 := hc 5 (by decide) (by decide) (by decide) (by decide)
  have c6 := hc 6 (by decide) (by decide) (by decide) (by decide)
  have c7 := hc 7 (by decide) (by decide) (by decide) (by decide)
  have c8 := hc 8 (by decide) (by decide) (by decide) (by decide)
  have c9 := hc 9 (by decide) (by decide) (by decide) (by decide)
  have c10 := hc 10 (by decide) (by decide) (by decide) (by decide)
  have c11 := hc 11 (by decide) (by decide) (by decide) (by decide)
  have c12 := hc 12 (by decide) (by decide) (by decide) (by decide)
  have c13 := hc 13 (by decide) (by decide) (by decide) (by decide)
  have c14 := hc 14 (by decide) (by decide) (by decide) (by decide)
  have c15 := hc 15 (by decide) (by decide) (by decide) (by decide)
  have c16 := hc 16 (by decide) (by decide) (by decide) (by decide)
  have c17 := hc 17 (by decide) (by decide) (by decide) (by decide)
  have c18 := hc 18 (by decide) (by decide) (by decide) (by decide)
  have c19 := hc 19 (by decide) (by decide) (by decide) (by decide)
  have c20 := hc 20 (by decide) (by decide) (by decide) (by decide)
  have c21 := hc 21 (by decide) (by decide) (by decide) (by decide)
  have c22 := hc 22 (by decide) (by decide) (by decide) (by decide)
  have c23 := hc 23 (by decide) (by decide) (by decide) (by decide)
  have c24 := hc 24 (by decide) (by decide) (by decide) (by decide)
  have c25 := hc 25 (by decide) (by decide) (by decide) (by decide)
  have c26 := hc 26 (by decide) (by decide) (by decide) (by decide)
  have c27 := hc 27 (by decide) (by decide) (by decide) (by decide)
  have c28 := hc 28 (by decide) (by decide) (by decide) (by decide)
  have c29 := hc 29 (by decide) (by decide) (by decide) (by decide)
  have c30 := hc 30 (by decide) (by decide) (by decide) (by decide)
  have c31 := hc 31 (by decide) (by decide) (by decide) (by decide)
  have c32 := hc 32 (by decide) (by decide) (by decide) (by decide)
  have a0 := ha 0 (by decide)
  have a2 := ha 2 (by decide)
  have a3 := ha 3 (by decide)
  have a4 := ha 4 (by decide)
  have a5 := ha 5 (by decide)
  have a6 := ha 6 (by decide)
  have a7 := ha 7 (by decide)
  have a8 := ha 8 (by decide)
  have a9 := ha 9 (by decide)
  have a10 := ha 10 (by decide)
  have a11 := ha 11 (by decide)
  have a12 := ha 12 (by decide)
  have a13 := ha 13 (by decide)
  have a14 := ha 14 (by decide)
  have a15 := ha 15 (by decide)
  have a16 := ha 16 (by decide)
  have a17 := ha 17 (by decide)
  have a18 := ha 18 (by decide)
  have a19 := ha 19 (by decide)
  have a20 := ha 20 (by decide)
  have a21 := ha 21 (by decide)
  have a22 := ha 22 (by decide)
  have a23 := ha 23 (by decide)
  have a24 := ha 24 (by decide)
  have a25 := ha 25 (by decide)
  have a26 := ha 26 (by decide)
  have a27 := ha 27 (by decide)
  have a28 := ha 28 (by decide)
  have a29 := ha 29 (by decide)
  have a30 := ha 30 (by decide)
  have a31 := ha 31 (by decide)
  have a32 := ha 32 (by decide)
  unfold HA at h ⊢
  rw [c0, c1, c5, c6, c7, c8, c9, c10, c11, c12, c13, c14, c15, c16, c17, c18, c19, c20, c21, c22, c23, c24, c25, c26, c27, c28, c29, c30, c31, c32, a0, a2, a3, a4, a5, a6, a7, a8, a9, a10, a11, a12, a13, a14, a15, a16, a17, a18, a19, a20, a21, a22, a23, a24, a25, a26, a27, a28, a29, a30, a31, a32]
  exact h

theorem q_head {C : Nat → Nat} {d0 a0 : Nat} {σ : St} {Q : St → Prop} (h1 : HVC C σ 2 (u1 1 a0 fun _ => d0) (u1 1 (cO 12) fun _ => cO 50)) (hC : ∀ b, C b % 2 = 1 ↔ b = d0) (hQ : ∀ s ad ce, HVC C s 33 ad ce → HA ad ce → HB ce → ad 0 = d0 → ad 1 = a0 → ∃ f, w_X11_init_169 Q f a0 0 s 30 147) : w_X11_init 61 3276 a0 σ Q := by
  unfold w_X11_init
  refine ⟨by decide, by decide, 60, 3258, rfl, rfl, fun a1 s1 z1 e1 t1 d1 => ?_⟩
  have g1 : HVC C t1 3 _ _ := ((h1.newA z1 (by decide) e1 (len' := 18) rfl : HVC C s1 3 _ _)).setR (i := 1) (by decide) rfl d1
  clear h1 z1 e1 d1
  refine ⟨by decide, by decide, 59, 3252, rfl, rfl, fun a2 s2 z2 e2 t2 d2 => ?_⟩
  have g2 : HVC C t2 4 _ _ := ((g1.newA z2 (by decide) e2 (len' := 6) rfl : HVC C s2 4 _ _)).setR (i := 1) (by decide) rfl d2
  clear g1 z2 e2 d2
  refine ⟨by decide, by decide, 58, 3249, rfl, rfl, fun a3 s3 z3 e3 t3 d3 => ?_⟩
  have g3 : HVC C t3 5 _ _ := ((g2.newA z3 (by decide) e3 (len' := 3) rfl : HVC C s3 5 _ _)).setR (i := 1) (by decide) rfl d3
  clear g2 z3 e3 d3
  refine ⟨57, 3246, rfl, rfl, fun a4 s4 z4 e4 => ?_⟩
  have f4 : HVC C s4 6 _ _ := g3.newO z4 (by decide) e4
  refine q_lst (by rw [f4.2.2.2]; exact hC) fun u4 y4 t4 d4 => ?_
  have g4 : HVC C t4 6 _ _ := (((f4.setI (i := 5) (by decide) rfl rfl).setR (i := 5) (by decide) rfl y4)).setR (i := 1) (by decide) rfl d4
  clear g3 f4 z4 e4 y4 d4
  refine ⟨56, 3243, rfl, rfl, fun a5 s5 z5 e5 => ?_⟩
  have f5 : HVC C s5 7 _ _ := g4.newO z5 (by decide) e5
  refine q_lst (by rw [f5.2.2.2]; exact hC) fun u5 y5 t5 d5 => ?_
  have g5 : HVC C t5 7 _ _ := (((f5.setI (i := 6) (by decide) rfl rfl).setR (i := 6) (by decide) rfl y5)).setR (i := 1) (by decide) rfl d5
  clear g4 f5 z5 e5 y5 d5
  refine ⟨55, 3240, rfl, rfl, fun a6 s6 z6 e6 => ?_⟩
  have f6 : HVC C s6 8 _ _ := g5.newO z6 (by decide) e6
  refine q_lst (by rw [f6.2.2.2]; exact hC) fun u6 y6 t6 d6 => ?_
  have g6 : HVC C t6 8 _ _ := (((f6.setI (i := 7) (by decide) rfl rfl).setR (i := 7) (by decide) rfl y6)).setR (i := 1) (by decide) rfl d6
  clear g5 f6 z6 e6 y6 d6
  refine ⟨54, 3237, rfl, rfl, fun a7 s7 z7 e7 => ?_⟩
  have f7 : HVC C s7 9 _ _ := g6.newO z7 (by decide) e7
  refine q_lst (by rw [f7.2.2.2]; exact hC) fun u7 y7 t7 d7 => ?_
  have g7 : HVC C t7 9 _ _ := (((f7.setI (i := 8) (by decide) rfl rfl).setR (i := 8) (by decide) rfl y7)).setR (i := 1) (by decide) rfl d7
  clear g6 f7 z7 e7 y7 d7
  refine ⟨53, 3234, rfl, rfl, fun a8 s8 z8 e8 => ?_⟩
  have f8 : HVC C s8 10 _ _ := g7.newO z8 (by decide) e8
  refine q_lst (by rw [f8.2.2.2]; exact hC) fun u8 y8 t8 d8 => ?_
  have g8 : HVC C t8 10 _ _ := (((f8.setI (i := 9) (by decide) rfl rfl).setR (i := 9) (by decide) rfl y8)).setR (i := 1) (by decide) rfl d8
  clear g7 f8 z8 e8 y8 d8
  refine ⟨52, 3231, rfl, rfl, fun a9 s9 z9 e9 => ?_⟩
  have f9 : HVC C s9 11 _ _ := g8.newO z9 (by decide) e9
  refine q_lst (by rw [f9.2.2.2]; exact hC) fun u9 y9 t9 d9 => ?_
  have g9 : HVC C t9 11 _ _ := (((f9.setI (i := 10) (by decide) rfl rfl).setR (i := 10) (by decide) rfl y9)).setR (i := 1) (by decide) rfl d9
  clear g8 f9 z9 e9 y9 d9
  refine ⟨51, 3223, rfl, rfl, fun a10 s10 z10 e10 => ⟨13, 1640, 38, 1583, rfl, rfl, ?_⟩⟩
  have g10 : HVC C s10 12 _ _ := g9.newO z10 (by decide) e10
  clear g9 z10 e10
  unfold w_X0_init
  refine ⟨12, 1638, rfl, rfl, fun a11 s11 z11 e11 => ⟨1, 336, 11, 1302, rfl, rfl, q_tab (by decide) (by decide) (by decide) fun b11 v11 t11 y11 x11 w11 u11 d11 => ?_⟩⟩
  have f11 : HVC C s11 13 _ _ := g10.newO z11 (by decide) e11
  have g11 : HVC C u11 14 _ _ := ((((f11.setI (i := 12) (by decide) rfl rfl).newA y11 (by decide) x11 (len' := 336) rfl : HVC C v11 14 _ _)).setR (i := 12) (by decide) rfl w11).setR (i := 11) (by decide) rfl d11
  clear g10 f11 z11 e11 y11 x11 w11 d11
  refine ⟨10, 1300, rfl, rfl, fun a12 s12 z12 e12 => ⟨1, 168, 9, 1132, rfl, rfl, q_tab (by decide) (by decide) (by decide) fun b12 v12 t12 y12 x12 w12 u12 d12 => ?_⟩⟩
  have f12 : HVC C s12 15 _ _ := g11.newO z12 (by decide) e12
  have g12 : HVC C u12 16 _ _ := ((((f12.setI (i := 14) (by decide) rfl rfl).newA y12 (by decide) x12 (len' := 168) rfl : HVC C v12 16 _ _)).setR (i := 14) (by decide) rfl w12).setR (i := 11) (by decide) rfl d12
  clear g11 f12 z12 e12 y12 x12 w12 d12
  refine ⟨8, 1130, rfl, rfl, fun a13 s13 z13 e13 => ⟨1, 336, 7, 794, rfl, rfl, q_tab (by decide) (by decide) (by decide) fun b13 v13 t13 y13 x13 w13 u13 d13 => ?_⟩⟩
  have f13 : HVC C s13 17 _ _ := g12.newO z13 (by decide) e13
  have g13 : HVC C u13 18 _ _ := ((((f13.setI (i := 16) (by decide) rfl rfl).newA y13 (by decide) x13 (len' := 336) rfl : HVC C v13 18 _ _)).setR (i := 16) (by decide) rfl w13).setR (i := 11) (by decide) rfl d13
  clear g12 f13 z13 e13 y13 x13 w13 d13
  refine ⟨6, 792, rfl, rfl, fun a14 s14 z14 e14 => ⟨1, 336, 5, 456, rfl, rfl, q_tab (by decide) (by decide) (by decide) fun b14 v14 t14 y14 x14 w14 u14 d14 => ?_⟩⟩
  have f14 : HVC C s14 19 _ _ := g13.newO z14 (by decide) e14
  have g14 : HVC C u14 20 _ _ := ((((f14.setI (i := 18) (by decide) rfl rfl).newA y14 (by decide) x14 (len' := 336) rfl : HVC C v14 20 _ _)).setR (i := 18) (by decide) rfl w14).setR (i := 11) (by decide) rfl d14
  clear g13 f14 z14 e14 y14 x14 w14 d14
  refine ⟨4, 454, rfl, rfl, fun a15 s15 z15 e15 => ⟨1, 108, 3, 346, rfl, rfl, q_tab (by decide) (by decide) (by decide) fun b15 v15 t15 y15 x15 w15 u15 d15 => ?_⟩⟩
  have f15 : HVC C s15 21 _ _ := g14.newO z15 (by decide) e15
  have g15 : HVC C u15 22 _ _ := ((((f15.setI (i := 20) (by decide) rfl rfl).newA y15 (by decide) x15 (len' := 108) rfl : HVC C v15 22 _ _)).setR (i := 20) (by decide) rfl w15).setR (i := 11) (by decide) rfl d15
  clear g14 f15 z15 e15 y15 x15 w15 d15
  refine ⟨2, 344, rfl, rfl, fun a16 s16 z16 e16 => ⟨1, 216, 1, 128, rfl, rfl, q_tab (by decide) (by decide) (by decide) fun b16 v16 t16 y16 x16 w16 u16 d16 => ?_⟩⟩
  have f16 : HVC C s16 23 _ _ := g15.newO z16 (by decide) e16
  have g16 : HVC C u16 24 _ _ := ((((f16.setI (i := 22) (by decide) rfl rfl).newA y16 (by decide) x16 (len' := 216) rfl : HVC C v16 24 _ _)).setR (i := 22) (by decide) rfl w16).setR (i := 11) (by decide) rfl d16
  clear g15 f16 z16 e16 y16 x16 w16 d16
  refine ⟨by decide, by decide, 0, 0, rfl, rfl, fun a17 s17 z17 e17 t17 d17 => ?_⟩
  have g17 : HVC C t17 25 _ _ := ((g16.newA z17 (by decide) e17 (len' := 128) rfl : HVC C s17 25 _ _)).setR (i := 11) (by decide) rfl d17
  clear g16 z17 e17 d17
  intro t18 d18
  have g18 : HVC C t18 25 _ _ := g17.setR (i := 1) (by decide) rfl d18
  clear g17 d18
  refine ⟨37, 1581, rfl, rfl, fun a19 s19 z19 e19 => ⟨1, 96, 36, 1485, rfl, rfl, q_tab (by decide) (by decide) (by decide) fun b19 v19 t19 y19 x19 w19 u19 d19 => ?_⟩⟩
  have f19 : HVC C s19 26 _ _ := g18.newO z19 (by decide) e19
  have g19 : HVC C u19 27 _ _ := ((((f19.setI (i := 25) (by decide) rfl rfl).newA y19 (by decide) x19 (len' := 96) rfl : HVC C v19 27 _ _)).setR (i := 25) (by decide) rfl w19).setR (i := 1) (by decide) rfl d19
  clear g18 f19 z19 e19 y19 x19 w19 d19
  refine ⟨35, 1483, rfl, rfl, fun a20 s20 z20 e20 => ⟨1, 96, 34, 1387, rfl, rfl, q_tab (by decide) (by decide) (by decide) fun b20 v20 t20 y20 x20 w20 u20 d20 => ?_⟩⟩
  have f20 : HVC C s20 28 _ _ := g19.newO z20 (by decide) e20
  have g20 : HVC C u20 29 _ _ := ((((f20.setI (i := 27) (by decide) rfl rfl).newA y20 (by decide) x20 (len' := 96) rfl : HVC C v20 29 _ _)).setR (i := 27) (by decide) rfl w20).setR (i := 1) (by decide) rfl d20
  clear g19 f20 z20 e20 y20 x20 w20 d20
  refine ⟨33, 1385, rfl, rfl, fun a21 s21 z21 e21 => ⟨1, 48, 32, 1337, rfl, rfl, q_tab (by decide) (by decide) (by decide) fun b21 v21 t21 y21 x21 w21 u21 d21 => ?_⟩⟩
  have f21 : HVC C s21 30 _ _ := g20.newO z21 (by decide) e21
  have g21 : HVC C u21 31 _ _ := ((((f21.setI (i := 29) (by decide) rfl rfl).newA y21 (by decide) x21 (len' := 48) rfl : HVC C v21 31 _ _)).setR (i := 29) (by decide) rfl w21).setR (i := 1) (by decide) rfl d21
  clear g20 f21 z21 e21 y21 x21 w21 d21
  refine ⟨31, 1335, rfl, rfl, fun a22 s22 z22 e22 => ⟨1, 1188, 30, 147, rfl, rfl, q_tab (by decide) (by decide) (by decide) fun b22 v22 t22 y22 x22 w22 u22 d22 => ?_⟩⟩
  have f22 : HVC C s22 32 _ _ := g21.newO z22 (by decide) e22
  have g22 : HVC C u22 33 _ _ := ((((f22.setI (i := 31) (by decide) rfl rfl).newA y22 (by decide) x22 (len' := 1188) rfl : HVC C v22 33 _ _)).setR (i := 31) (by decide) rfl w22).setR (i := 1) (by decide) rfl d22
  clear g21 f22 z22 e22 y22 x22 w22 d22
  refine hQ _ _ _ g22 ?_ ?_ rfl rfl
  · unfold HA
    exact ⟨rfl, rfl, rfl, fun _ => rfl, rfl, rfl, rfl, rfl, rfl, rfl, rfl, rfl, rfl, rfl, rfl, rfl, rfl, rfl, rfl, rfl, rfl, rfl, rfl, rfl, rfl, rfl, rfl, rfl, rfl, rfl, rfl, rfl, rfl, rfl, rfl, rfl, rfl, fun _ => rfl, rfl, rfl, rfl, rfl, rfl, rfl, rfl, rfl, rfl, rfl, rfl, rfl, rfl, rfl, rfl, rfl, rfl, rfl, rfl, rfl, rfl, rfl, rfl, rfl, rfl, rfl, rfl, rfl, rfl, rfl, rfl, rfl, rfl, rfl, rfl, rfl, rfl, rfl, rfl, rfl, rfl, rfl, rfl, rfl, rfl, rfl, rfl, rfl, rfl, rfl, rfl, rfl, rfl, rfl, rfl, rfl, rfl, rfl, rfl, rfl, rfl, rfl, rfl, rfl, rfl, rfl, rfl, rfl, rfl, rfl⟩
  · unfold HB
    exact ⟨rfl, rfl, rfl, rfl, rfl, rfl⟩
