/-! both side by side -/
def MO (a2 : Nat) (arr : Nat → Nat) (σ : St) (w : MS) : Prop := RF a2 arr σ ∧ absM a2 arr σ = w ∧ sK σ a2 = 13 ∧ (∀ k, isA k = true → sK σ (arr k) = 21 ∨ sK σ (arr k) = 22) ∧ ∀ k, isA k = false → arr k = a2
def J (a1 a2 a3 : Nat) (arr : Nat → Nat) (D : Nat → Nat → Nat) (σ : St) (S : Ss) (w : MS) : Prop := RC D σ S ∧ AT D S 11 0 a1 ∧ MO a2 arr σ w ∧ sK σ a3 = 23 ∧ sL σ a3 = 1
section
variable {a1 a2 a3 : Nat} {arr : Nat → Nat} {D D' : Nat → Nat → Nat} {σ τ : St} {S S' : Ss} {w w' : MS}
theorem MO.keep (h : MO a2 arr σ w) (hk : ∀ a, sK σ a ≠ 0 → kSide (sK σ a) = 2 → sK τ a = sK σ a ∧ cEq σ τ a) : MO a2 arr τ w := by
  obtain ⟨h1, h2, h3, h4, h5⟩ := h
  obtain ⟨k1, k2⟩ := hk a2 (by rw [h3]; decide) (by rw [h3]; decide)
  have ka : ∀ k, isA k = true → sK τ (arr k) = sK σ (arr k) ∧ cEq σ τ (arr k) := fun k q => by
    rcases h4 k q with r | r
    · exact hk _ (by rw [r]; decide) (by rw [r]; decide)
    · exact hk _ (by rw [r]; decide) (by rw [r]; decide)
  refine ⟨⟨fun k q => by rw [k2.2.1]; exact h1.1 k q, fun k q => by rw [(ka k q).2.2.2.2.1]; exact h1.2.1 k q, h1.2.2⟩, ?_, by rw [k1]; exact h3, fun k q => by rw [(ka k q).1]; exact h4 k q, h5⟩
  rw [← h2]
  refine Prod.ext (funext fun k => k2.1 _) (funext fun k => ?_)
  show sA τ (arr k) = sA σ (arr k)
  cases q : isA k with
  | true => exact (ka k q).2.2.2.1
  | false => rw [h5 k q]; exact k2.2.2.1
/-- a call of the class -/
theorem J.cls (h : J a1 a2 a3 arr D σ S w) (g : RC D' τ S') (X : DX S D D') (L : zle S S') (he : ext σ τ) (hf : fr 1 σ τ) : J a1 a2 a3 arr D' τ S' w := by
  obtain ⟨h1, h2, h3, h4, h5⟩ := h
  rcases hf with hf | hf
  · cases hf
  refine ⟨g, h2.up L X, h3.keep fun a q r => ⟨he a q, hf a q (by rw [r]; decide)⟩, (he a3 (by rw [h4]; decide)).trans h4, ?_⟩
  rw [(hf a3 (by rw [h4]; decide) (by rw [h4]; decide)).2.2.2.1]; exact h5
/-- a call of the reference -/
theorem J.mod (h : J a1 a2 a3 arr D σ S w) (g : RF a2 arr τ) (e : absM a2 arr τ = w') (he : ext σ τ) (hf : fr 2 σ τ) : J a1 a2 a3 arr D τ S w' := by
  obtain ⟨h1, h2, h3, h4, h5⟩ := h
  rcases hf with hf | hf
  · cases hf
  refine ⟨h1.congr fun a q r => ⟨he a q, hf a q (by rw [r]; decide)⟩, h2, ⟨g, e, ?_, fun k q => ?_, h3.2.2.2.2⟩, (he a3 (by rw [h4]; decide)).trans h4, ?_⟩
  · rw [he a2 (by rw [h3.2.2.1]; decide)]; exact h3.2.2.1
  · rw [he (arr k) (by rcases h3.2.2.2.1 k q with r | r <;> (rw [r]; decide))]; exact h3.2.2.2.1 k q
  · rw [(hf a3 (by rw [h4]; decide) (by rw [h4]; decide)).2.2.2.1]; exact h5
theorem J.out (h : J a1 a2 a3 arr D σ S w) {j : Nat} {v : Int32} (e : τ = setA a3 j v σ) : J a1 a2 a3 arr D τ S w := by
  obtain ⟨h1, h2, h3, h4, h5⟩ := h
  subst e
  have hn : ∀ a, kSide (sK σ a) ≠ 3 → a ≠ a3 := fun a q r => q (by rw [r, h4]; decide)
  exact ⟨h1.congr fun a q r => ⟨rfl, cEq_setA a3 j v σ (hn a (by rw [r]; decide))⟩, h2, h3.keep fun a q r => ⟨rfl, cEq_setA a3 j v σ (hn a (by rw [r]; decide))⟩, h4, h5⟩
theorem J.thr (h : J a1 a2 a3 arr D σ S w) : sI σ 1200 a2 = mI w 0 := by rw [← h.2.2.1.2.1]; rfl
/-- one call, on both sides: class's program f, reference's g, the places of its exceptions -/
def STi (G : Nat → Ss → MS → Prop) (m : Nat) (S : Ss) (w : MS) (f : MM (Nat × Int32)) (g : GM Int32) (cs : List (Nat × Int32)) : Prop := ∃ r S' r' w', f.1 S = some (r, S') ∧ g w = some (r', w') ∧ G (m + 1) S' w' ∧ ((r.1 = 0 ∧ mI w' 0 = 0 ∧ r.2 = r') ∨ ∃ c, c ∈ cs ∧ r.1 = c.1 ∧ mI w' 0 = c.2 ∧ ¬ c.1 = 0 ∧ ¬ c.2 = 0)
def STv (G : Nat → Ss → MS → Prop) (m : Nat) (S : Ss) (w : MS) (f : MM (Nat × Int32)) (g : GM Unit) (cs : List (Nat × Int32)) : Prop := ∃ r S' r' w', f.1 S = some (r, S') ∧ g w = some (r', w') ∧ G (m + 1) S' w' ∧ ((r.1 = 0 ∧ mI w' 0 = 0) ∨ ∃ c, c ∈ cs ∧ r.1 = c.1 ∧ mI w' 0 = c.2 ∧ ¬ c.1 = 0 ∧ ¬ c.2 = 0)
def STn (G : Nat → Ss → MS → Prop) (m : Nat) (S : Ss) (w : MS) (f : MM Int32) (g : GM Int32) : Prop := ∃ r S' w', f.1 S = some (r, S') ∧ g w = some (r, w') ∧ G (m + 1) S' w'
/-- the room: what is left covers all that may still be used -/
def RM (S : Ss) (k n : Nat) : Prop := 600000 ≤ zN S 61 + k ∧ 7270000 ≤ zN S 62 + n
/-- G keeps to the room -/
def GB (G : Nat → Ss → MS → Prop) : Prop := ∀ m S w, G m S w → zN S 61 ≤ 600000 ∧ zN S 62 ≤ 7270000
end
