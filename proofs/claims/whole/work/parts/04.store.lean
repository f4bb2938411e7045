/-! THE STORE: kinds of the addresses, int fields, reference fields, int arrays, their lengths, arrays of references, lists, the lists' capacities -/
def u1 {α : Type} (a : Nat) (v : α) (g : Nat → α) : Nat → α := fun b => if b = a then v else g b
def u2 {α : Type} (f a : Nat) (v : α) (g : Nat → Nat → α) : Nat → Nat → α := fun e b => if e = f ∧ b = a then v else g e b
def u2r {α : Type} (a : Nat) (v : α) (g : Nat → Nat → α) : Nat → Nat → α := fun e b => if b = a then v else g e b
def u2l {α : Type} (a : Nat) (v : Nat → α) (g : Nat → Nat → α) : Nat → Nat → α := fun b j => if b = a then v j else g b j
theorem u1_at {α : Type} (a b : Nat) (v : α) (g : Nat → α) : u1 a v g b = if b = a then v else g b := rfl
theorem u2_at {α : Type} (f a e b : Nat) (v : α) (g : Nat → Nat → α) : u2 f a v g e b = if e = f ∧ b = a then v else g e b := rfl
theorem u2r_at {α : Type} (a e b : Nat) (v : α) (g : Nat → Nat → α) : u2r a v g e b = if b = a then v else g e b := rfl
theorem u2l_at {α : Type} (a b j : Nat) (v : Nat → α) (g : Nat → Nat → α) : u2l a v g b j = if b = a then v j else g b j := rfl
abbrev St : Type := (Nat → Nat) × (Nat → Nat → Int32) × (Nat → Nat → Option Nat) × (Nat → Nat → Int32) × (Nat → Nat) × (Nat → Nat → Option Nat) × (Nat → Nat)
def sK (σ : St) : Nat → Nat := σ.1
def sI (σ : St) : Nat → Nat → Int32 := σ.2.1
def sR (σ : St) : Nat → Nat → Option Nat := σ.2.2.1
def sA (σ : St) : Nat → Nat → Int32 := σ.2.2.2.1
def sL (σ : St) : Nat → Nat := σ.2.2.2.2.1
def sQ (σ : St) : Nat → Nat → Option Nat := σ.2.2.2.2.2.1
def sC (σ : St) : Nat → Nat := σ.2.2.2.2.2.2
def setI (f a : Nat) (v : Int32) (σ : St) : St := (sK σ, u2 f a v (sI σ), sR σ, sA σ, sL σ, sQ σ, sC σ)
theorem sK_setI (f a : Nat) (v : Int32) (σ : St) : sK (setI f a v σ) = sK σ := rfl
theorem sI_setI (f a : Nat) (v : Int32) (σ : St) : sI (setI f a v σ) = u2 f a v (sI σ) := rfl
theorem sR_setI (f a : Nat) (v : Int32) (σ : St) : sR (setI f a v σ) = sR σ := rfl
theorem sA_setI (f a : Nat) (v : Int32) (σ : St) : sA (setI f a v σ) = sA σ := rfl
theorem sL_setI (f a : Nat) (v : Int32) (σ : St) : sL (setI f a v σ) = sL σ := rfl
theorem sQ_setI (f a : Nat) (v : Int32) (σ : St) : sQ (setI f a v σ) = sQ σ := rfl
theorem sC_setI (f a : Nat) (v : Int32) (σ : St) : sC (setI f a v σ) = sC σ := rfl
def setR (f a : Nat) (v : Option Nat) (σ : St) : St := (sK σ, sI σ, u2 f a v (sR σ), sA σ, sL σ, sQ σ, sC σ)
theorem sK_setR (f a : Nat) (v : Option Nat) (σ : St) : sK (setR f a v σ) = sK σ := rfl
theorem sI_setR (f a : Nat) (v : Option Nat) (σ : St) : sI (setR f a v σ) = sI σ := rfl
theorem sR_setR (f a : Nat) (v : Option Nat) (σ : St) : sR (setR f a v σ) = u2 f a v (sR σ) := rfl
theorem sA_setR (f a : Nat) (v : Option Nat) (σ : St) : sA (setR f a v σ) = sA σ := rfl
theorem sL_setR (f a : Nat) (v : Option Nat) (σ : St) : sL (setR f a v σ) = sL σ := rfl
theorem sQ_setR (f a : Nat) (v : Option Nat) (σ : St) : sQ (setR f a v σ) = sQ σ := rfl
theorem sC_setR (f a : Nat) (v : Option Nat) (σ : St) : sC (setR f a v σ) = sC σ := rfl
def setA (a j : Nat) (v : Int32) (σ : St) : St := (sK σ, sI σ, sR σ, u2 a j v (sA σ), sL σ, sQ σ, sC σ)
theorem sK_setA (a j : Nat) (v : Int32) (σ : St) : sK (setA a j v σ) = sK σ := rfl
theorem sI_setA (a j : Nat) (v : Int32) (σ : St) : sI (setA a j v σ) = sI σ := rfl
theorem sR_setA (a j : Nat) (v : Int32) (σ : St) : sR (setA a j v σ) = sR σ := rfl
theorem sA_setA (a j : Nat) (v : Int32) (σ : St) : sA (setA a j v σ) = u2 a j v (sA σ) := rfl
theorem sL_setA (a j : Nat) (v : Int32) (σ : St) : sL (setA a j v σ) = sL σ := rfl
theorem sQ_setA (a j : Nat) (v : Int32) (σ : St) : sQ (setA a j v σ) = sQ σ := rfl
theorem sC_setA (a j : Nat) (v : Int32) (σ : St) : sC (setA a j v σ) = sC σ := rfl
def setQ (a j : Nat) (v : Option Nat) (σ : St) : St := (sK σ, sI σ, sR σ, sA σ, sL σ, u2 a j v (sQ σ), sC σ)
theorem sK_setQ (a j : Nat) (v : Option Nat) (σ : St) : sK (setQ a j v σ) = sK σ := rfl
theorem sI_setQ (a j : Nat) (v : Option Nat) (σ : St) : sI (setQ a j v σ) = sI σ := rfl
theorem sR_setQ (a j : Nat) (v : Option Nat) (σ : St) : sR (setQ a j v σ) = sR σ := rfl
theorem sA_setQ (a j : Nat) (v : Option Nat) (σ : St) : sA (setQ a j v σ) = sA σ := rfl
theorem sL_setQ (a j : Nat) (v : Option Nat) (σ : St) : sL (setQ a j v σ) = sL σ := rfl
theorem sQ_setQ (a j : Nat) (v : Option Nat) (σ : St) : sQ (setQ a j v σ) = u2 a j v (sQ σ) := rfl
theorem sC_setQ (a j : Nat) (v : Option Nat) (σ : St) : sC (setQ a j v σ) = sC σ := rfl
def newO (κ q : Nat) (σ : St) : St := (u1 q κ (sK σ), u2r q 0 (sI σ), u2r q none (sR σ), sA σ, sL σ, sQ σ, sC σ)
theorem sK_newO (κ q : Nat) (σ : St) : sK (newO κ q σ) = u1 q κ (sK σ) := rfl
theorem sI_newO (κ q : Nat) (σ : St) : sI (newO κ q σ) = u2r q 0 (sI σ) := rfl
theorem sR_newO (κ q : Nat) (σ : St) : sR (newO κ q σ) = u2r q none (sR σ) := rfl
theorem sA_newO (κ q : Nat) (σ : St) : sA (newO κ q σ) = sA σ := rfl
theorem sL_newO (κ q : Nat) (σ : St) : sL (newO κ q σ) = sL σ := rfl
theorem sQ_newO (κ q : Nat) (σ : St) : sQ (newO κ q σ) = sQ σ := rfl
theorem sC_newO (κ q : Nat) (σ : St) : sC (newO κ q σ) = sC σ := rfl
def newA (κ q n : Nat) (σ : St) : St := (u1 q κ (sK σ), sI σ, sR σ, u2l q (fun _ => 0) (sA σ), u1 q n (sL σ), u2l q (fun _ => none) (sQ σ), sC σ)
theorem sK_newA (κ q n : Nat) (σ : St) : sK (newA κ q n σ) = u1 q κ (sK σ) := rfl
theorem sI_newA (κ q n : Nat) (σ : St) : sI (newA κ q n σ) = sI σ := rfl
theorem sR_newA (κ q n : Nat) (σ : St) : sR (newA κ q n σ) = sR σ := rfl
theorem sA_newA (κ q n : Nat) (σ : St) : sA (newA κ q n σ) = u2l q (fun _ => 0) (sA σ) := rfl
theorem sL_newA (κ q n : Nat) (σ : St) : sL (newA κ q n σ) = u1 q n (sL σ) := rfl
theorem sQ_newA (κ q n : Nat) (σ : St) : sQ (newA κ q n σ) = u2l q (fun _ => none) (sQ σ) := rfl
theorem sC_newA (κ q n : Nat) (σ : St) : sC (newA κ q n σ) = sC σ := rfl
def cpyA (a : Nat) (v : Nat → Int32) (σ : St) : St := (sK σ, sI σ, sR σ, u2l a v (sA σ), sL σ, sQ σ, sC σ)
theorem sK_cpyA (a : Nat) (v : Nat → Int32) (σ : St) : sK (cpyA a v σ) = sK σ := rfl
theorem sI_cpyA (a : Nat) (v : Nat → Int32) (σ : St) : sI (cpyA a v σ) = sI σ := rfl
theorem sR_cpyA (a : Nat) (v : Nat → Int32) (σ : St) : sR (cpyA a v σ) = sR σ := rfl
theorem sA_cpyA (a : Nat) (v : Nat → Int32) (σ : St) : sA (cpyA a v σ) = u2l a v (sA σ) := rfl
theorem sL_cpyA (a : Nat) (v : Nat → Int32) (σ : St) : sL (cpyA a v σ) = sL σ := rfl
theorem sQ_cpyA (a : Nat) (v : Nat → Int32) (σ : St) : sQ (cpyA a v σ) = sQ σ := rfl
theorem sC_cpyA (a : Nat) (v : Nat → Int32) (σ : St) : sC (cpyA a v σ) = sC σ := rfl
def cpyQ (a : Nat) (v : Nat → Option Nat) (σ : St) : St := (sK σ, sI σ, sR σ, sA σ, sL σ, u2l a v (sQ σ), sC σ)
theorem sK_cpyQ (a : Nat) (v : Nat → Option Nat) (σ : St) : sK (cpyQ a v σ) = sK σ := rfl
theorem sI_cpyQ (a : Nat) (v : Nat → Option Nat) (σ : St) : sI (cpyQ a v σ) = sI σ := rfl
theorem sR_cpyQ (a : Nat) (v : Nat → Option Nat) (σ : St) : sR (cpyQ a v σ) = sR σ := rfl
theorem sA_cpyQ (a : Nat) (v : Nat → Option Nat) (σ : St) : sA (cpyQ a v σ) = sA σ := rfl
theorem sL_cpyQ (a : Nat) (v : Nat → Option Nat) (σ : St) : sL (cpyQ a v σ) = sL σ := rfl
theorem sQ_cpyQ (a : Nat) (v : Nat → Option Nat) (σ : St) : sQ (cpyQ a v σ) = u2l a v (sQ σ) := rfl
theorem sC_cpyQ (a : Nat) (v : Nat → Option Nat) (σ : St) : sC (cpyQ a v σ) = sC σ := rfl
theorem St_ext {σ τ : St} (hK : sK σ = sK τ) (hI : sI σ = sI τ) (hR : sR σ = sR τ) (hA : sA σ = sA τ) (hL : sL σ = sL τ) (hQ : sQ σ = sQ τ) (hC : sC σ = sC τ) : σ = τ := by
  obtain ⟨a, b, c, d, e, f, g⟩ := σ
  obtain ⟨a2, b2, c2, d2, e2, f2, g2⟩ := τ
  simp only [sK, sI, sR, sA, sL, sQ, sC] at *
  subst_vars
  rfl
/-- what an address holds is the same -/
def cEq (σ τ : St) (a : Nat) : Prop := (∀ f, sI τ f a = sI σ f a) ∧ (∀ f, sR τ f a = sR σ f a) ∧ sA τ a = sA σ a ∧ sL τ a = sL σ a ∧ sQ τ a = sQ σ a ∧ sC τ a = sC σ a
theorem cEq.rf (σ : St) (a : Nat) : cEq σ σ a := ⟨fun _ => rfl, fun _ => rfl, rfl, rfl, rfl, rfl⟩
theorem cEq.tr {σ τ υ : St} {a : Nat} (h : cEq σ τ a) (g : cEq τ υ a) : cEq σ υ a := ⟨fun f => (g.1 f).trans (h.1 f), fun f => (g.2.1 f).trans (h.2.1 f), g.2.2.1.trans h.2.2.1, g.2.2.2.1.trans h.2.2.2.1, g.2.2.2.2.1.trans h.2.2.2.2.1, g.2.2.2.2.2.trans h.2.2.2.2.2⟩
theorem cEq_setI (f a : Nat) (v : Int32) (σ : St) {b : Nat} (hb : b ≠ a) : cEq σ (setI f a v σ) b := ⟨fun _ => if_neg fun h => hb h.2, fun _ => rfl, rfl, rfl, rfl, rfl⟩
theorem cEq_setR (f a : Nat) (v : Option Nat) (σ : St) {b : Nat} (hb : b ≠ a) : cEq σ (setR f a v σ) b := ⟨fun _ => rfl, fun _ => if_neg fun h => hb h.2, rfl, rfl, rfl, rfl⟩
theorem cEq_setA (a j : Nat) (v : Int32) (σ : St) {b : Nat} (hb : b ≠ a) : cEq σ (setA a j v σ) b := ⟨fun _ => rfl, fun _ => rfl, funext fun _ => if_neg fun h => hb h.1, rfl, rfl, rfl⟩
theorem cEq_setQ (a j : Nat) (v : Option Nat) (σ : St) {b : Nat} (hb : b ≠ a) : cEq σ (setQ a j v σ) b := ⟨fun _ => rfl, fun _ => rfl, rfl, rfl, funext fun _ => if_neg fun h => hb h.1, rfl⟩
theorem cEq_newO (κ q : Nat) (σ : St) {b : Nat} (hb : b ≠ q) : cEq σ (newO κ q σ) b := ⟨fun _ => if_neg hb, fun _ => if_neg hb, rfl, rfl, rfl, rfl⟩
theorem cEq_newA (κ q n : Nat) (σ : St) {b : Nat} (hb : b ≠ q) : cEq σ (newA κ q n σ) b := ⟨fun _ => rfl, fun _ => rfl, funext fun _ => if_neg hb, if_neg hb, funext fun _ => if_neg hb, rfl⟩
theorem cEq_cpyA (a : Nat) (v : Nat → Int32) (σ : St) {b : Nat} (hb : b ≠ a) : cEq σ (cpyA a v σ) b := ⟨fun _ => rfl, fun _ => rfl, funext fun _ => if_neg hb, rfl, rfl, rfl⟩
theorem cEq_cpyQ (a : Nat) (v : Nat → Option Nat) (σ : St) {b : Nat} (hb : b ≠ a) : cEq σ (cpyQ a v σ) b := ⟨fun _ => rfl, fun _ => rfl, rfl, rfl, funext fun _ => if_neg hb, rfl⟩
/-- no kind is lost -/
def ext (σ τ : St) : Prop := ∀ a, sK σ a ≠ 0 → sK τ a = sK σ a
theorem ext.rf (σ : St) : ext σ σ := fun _ _ => rfl
theorem ext.tr {σ τ υ : St} (h : ext σ τ) (g : ext τ υ) : ext σ υ := fun a ha => (g a (by rw [h a ha]; exact ha)).trans (h a ha)
/-- which side an address's kind belongs to: 1 the class, 2 the reference, 3 the law's own array -/
def kSide (κ : Nat) : Nat := if κ = 13 ∨ κ = 21 ∨ κ = 22 then 2 else if κ = 23 then 3 else 1
/-- a method of the side d leaves the other sides' cells as they are (d = 0: nothing is said) -/
def fr (d : Nat) (σ τ : St) : Prop := d = 0 ∨ ∀ a, sK σ a ≠ 0 → kSide (sK σ a) ≠ d → cEq σ τ a
theorem fr.rf (d : Nat) (σ : St) : fr d σ σ := Or.inr fun a _ _ => cEq.rf σ a
theorem fr.tr {d : Nat} {σ τ υ : St} (he : ext σ τ) (h : fr d σ τ) (g : fr d τ υ) : fr d σ υ := by
  rcases h with h | h
  · exact Or.inl h
  rcases g with g | g
  · exact Or.inl g
  exact Or.inr fun a h1 h2 => (h a h1 h2).tr (g a (by rw [he a h1]; exact h1) (by rw [he a h1]; exact h2))
theorem fr.of {d e : Nat} {σ τ : St} (hd : e = d ∨ d = 0) (h : fr e σ τ) : fr d σ τ := by
  rcases hd with h1 | h1
  · exact h1 ▸ h
  · exact Or.inl h1
/-- one cell of this side is written -/
theorem fr.w {d a : Nat} {σ τ : St} (hd : kSide (sK σ a) = d ∨ d = 0) (h : ∀ b, b ≠ a → cEq σ τ b) : fr d σ τ := by
  rcases hd with h1 | h1
  · exact Or.inr fun b _ h2 => h b fun e => h2 (by rw [e]; exact h1)
  · exact Or.inl h1
/-- a cell comes that wasn't -/
theorem fr.n {d q : Nat} {σ τ : St} (hq : sK σ q = 0) (h : ∀ b, b ≠ q → cEq σ τ b) : fr d σ τ := Or.inr fun b h1 _ => h b fun e => h1 (by rw [e]; exact hq)
theorem ext.n {q κ : Nat} {σ τ : St} (hq : sK σ q = 0) (h : sK τ = u1 q κ (sK σ)) : ext σ τ := fun b hb => by
  rw [h, u1_at]
  exact if_neg fun e => hb (by rw [e]; exact hq)
theorem ext.w {σ τ : St} (h : sK τ = sK σ) : ext σ τ := fun _ _ => by rw [h]
