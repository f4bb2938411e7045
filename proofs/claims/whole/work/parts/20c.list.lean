section
variable {σ : St} {l e : Nat} {xs : List Nat}
/-- what a list holds; how much it could -/
def lst (σ : St) (l : Nat) : List Nat := match sR σ 1301 l with
  | none => []
  | some e => (List.range (sI σ 1302 l).toNatClampNeg).map fun j => (sQ σ e j).getD 0
def cap (σ : St) (l : Nat) : Nat := match sR σ 1301 l with
  | none => 0
  | some e => sL σ e
theorem LSTe.lst (h : LSTe σ l e xs) : lst σ l = xs := by
  unfold _root_.lst
  rw [h.1, h.2.1]
  show (List.range (nI xs.length).toNatClampNeg).map (fun j => (sQ σ e j).getD 0) = xs
  rw [nI_clamp h.lt]
  refine List.ext_getElem? fun j => ?_
  rw [List.getElem?_map]
  by_cases hj : j < xs.length
  · rw [List.getElem?_range hj, List.getElem?_eq_getElem hj]
    show some ((sQ σ e j).getD 0) = _
    rw [h.2.2.2.2.1 j _ (List.getElem?_eq_getElem hj)]
    rfl
  · rw [List.getElem?_eq_none (by rw [List.length_range]; omega), List.getElem?_eq_none (by omega)]
    rfl
theorem LSTe.cap (h : LSTe σ l e xs) : cap σ l = sL σ e := by
  unfold _root_.cap
  rw [h.1]
/-- all lists stand, each has an array of its own but for the empty one -/
def GL (σ : St) : Prop := (∀ l e, sR σ 1301 l = some e → LSTe σ l e (lst σ l) ∧ ∀ l', sR σ 1301 l' = some e → l' = l ∨ sL σ e = 0) ∧ ∃ a2, ∀ b, 2 ≤ sC σ b ↔ b = a2
theorem GL.at (h : GL σ) (hl : sR σ 1301 l = some e) : LSTe σ l e (lst σ l) := (h.1 l e hl).1
/-- what a change of a list leaves as it was -/
def chS (σ τ : St) (l : Nat) : Prop := (∀ f a, f ≠ 1300 → f ≠ 1302 → sI τ f a = sI σ f a) ∧ (∀ f a, f ≠ 1301 → sR τ f a = sR σ f a) ∧ (∀ a, sK σ a ≠ 0 → sK τ a = sK σ a) ∧ (∀ a, sK σ a ≠ 0 → sK σ a ≠ 50 → sA τ a = sA σ a ∧ sL τ a = sL σ a ∧ sQ τ a = sQ σ a) ∧ sC τ = sC σ ∧ (∀ a, a ≠ l → (sR τ 1301 a).isSome = (sR σ 1301 a).isSome ∧ lst τ a = lst σ a ∧ cap τ a = cap σ a) ∧ (sR τ 1301 l).isSome = true
/-- the other lists: one list, and an array that was its own or is new, have changed -/
theorem GL.ch {τ : St} {e' : Nat} {ys : List Nat} (h : GL σ) (hl : sR σ 1301 l = some e) (hc : chL σ τ l e e') (hn : e' = e ∧ (0 < sL σ e ∨ sQ τ e' = sQ σ e') ∨ sK σ e' = 0) (hy : LSTe τ l e' ys) (hp : e' = e ∨ 0 < sL τ e') : GL τ ∧ chS σ τ l ∧ lst τ l = ys ∧ cap τ l = sL τ e' := by
  obtain ⟨c1, c2, c3, c4, c5⟩ := hc
  have h0 := h.at hl
  have hkeep : ∀ a a', a ≠ l → sR σ 1301 a = some a' → sL τ a' = sL σ a' ∧ sQ τ a' = sQ σ a' ∧ sK τ a' = sK σ a' ∧ sR τ 1301 a = some a' ∧ sI τ 1302 a = sI σ 1302 a ∧ sK τ a = sK σ a := by
    intro a a' ha hr
    have h1 := h.at hr
    have hk1 : sK σ a' = 50 := h1.2.2.2.2.2.2.2
    have hk2 : sK σ a = 30 := h1.2.2.2.2.2.2.1
    have r1 : sR τ 1301 a = some a' := by rw [c2 _ _ (Or.inl ha)]; exact hr
    have r2 : sI τ 1302 a = sI σ 1302 a := c1 _ _ (Or.inl ha)
    have r3 : sK τ a = sK σ a := by
      by_cases q : a = e'
      · rcases c5 with c5 | c5
        · rw [q]; exact c5.2.2.2
        · rw [← q, hk2] at c5; cases c5
      · exact (c3 a q).2.2.2
    by_cases q : a' = e'
    · rcases hn with ⟨n1, n2⟩ | n1
      · rcases n2 with n2 | n2
        · have h9 := (h.1 l e hl).2 a (by rw [← n1, ← q]; exact hr)
          rcases h9 with h9 | h9
          · exact absurd h9 ha
          · omega
        · rcases c5 with c5 | c5
          · rw [q]; exact ⟨c5.2.1, n2, c5.2.2.2, by rw [← q]; exact r1, r2, r3⟩
          · rw [n1, h0.2.2.2.2.2.2.2] at c5; cases c5
      · rw [← q, hk1] at n1; cases n1
    · obtain ⟨d1, d2, d3, d4⟩ := c3 a' q
      exact ⟨d2, d3, d4, r1, r2, r3⟩
  have hoth : ∀ a, a ≠ l → (sR τ 1301 a).isSome = (sR σ 1301 a).isSome ∧ lst τ a = lst σ a ∧ cap τ a = cap σ a := by
    intro a ha
    cases hr : sR σ 1301 a with
    | none =>
      have r1 : sR τ 1301 a = none := by rw [c2 _ _ (Or.inl ha)]; exact hr
      refine ⟨by rw [r1], ?_, ?_⟩
      · unfold lst; rw [r1, hr]
      · unfold cap; rw [r1, hr]
    | some a' =>
      obtain ⟨k1, k2, k3, k4, k5, k6⟩ := hkeep a a' ha hr
      refine ⟨by rw [k4], ?_, ?_⟩
      · unfold lst; rw [k4, hr, k5, k2]
      · unfold cap; rw [k4, hr, k1]
  refine ⟨⟨fun a a' hr => ?_, ?_⟩, ⟨fun f a f1 f2 => c1 f a (Or.inr ⟨f1, f2⟩), fun f a f1 => c2 f a (Or.inr f1), fun a ha => ?_, fun a ha hb => ?_, c4, hoth, by rw [hy.1]; rfl⟩, hy.lst, hy.cap⟩
  · by_cases ha : a = l
    · subst ha
      have e1 : a' = e' := Option.some.inj (hr.symm.trans hy.1)
      subst e1
      rw [hy.lst]
      refine ⟨hy, fun l' hl' => ?_⟩
      by_cases q : l' = a
      · exact Or.inl q
      · rw [c2 _ _ (Or.inl q)] at hl'
        rcases hp with p | p
        · rw [p] at hl'
          rcases (h.1 a e hl).2 l' hl' with r | r
          · exact Or.inl r
          · refine Or.inr ?_
            have k1 := (hkeep l' e q hl').1
            rw [p, k1]; exact r
        · rcases hn with ⟨n1, n2⟩ | n1
          · rw [n1] at hl'
            rcases (h.1 a e hl).2 l' hl' with r | r
            · exact Or.inl r
            · refine Or.inr ?_
              have k1 := (hkeep l' e q hl').1
              rw [n1, k1]; exact r
          · have k9 := (h.at hl').2.2.2.2.2.2.2
            rw [n1] at k9; cases k9
    · have hr' : sR σ 1301 a = some a' := by rw [← c2 _ _ (Or.inl ha)]; exact hr
      obtain ⟨k1, k2, k3, k4, k5, k6⟩ := hkeep a a' ha hr'
      have h1 := h.at hr'
      rw [(hoth a ha).2.1]
      refine ⟨⟨hr, by rw [k5]; exact h1.2.1, by rw [k1]; exact h1.2.2.1, by rw [k1]; exact h1.2.2.2.1, fun j x hx => by rw [k2]; exact h1.2.2.2.2.1 j x hx, fun hz b => by rw [c4]; exact h1.2.2.2.2.2.1 (by rw [← k1]; exact hz) b, by rw [k6]; exact h1.2.2.2.2.2.2.1, by rw [k3]; exact h1.2.2.2.2.2.2.2⟩, fun l' hl' => ?_⟩
      by_cases q : l' = l
      · subst q
        have e1 : a' = e' := Option.some.inj (hl'.symm.trans hy.1)
        rcases hn with ⟨n1, n2⟩ | n1
        · rw [e1, n1] at hr'
          rcases (h.1 l' e hl).2 a hr' with r | r
          · exact Or.inl r.symm
          · refine Or.inr ?_
            rw [e1, n1, (hkeep a e ha hr').1]; exact r
        · rw [e1] at hr'
          have k9 := (h.at hr').2.2.2.2.2.2.2
          rw [n1] at k9; cases k9
      · rw [c2 _ _ (Or.inl q)] at hl'
        rw [k1]
        exact (h.1 a a' hr').2 l' hl'
  · rw [c4]; exact h.2
  · by_cases q : a = e'
    · rcases c5 with c5 | c5
      · rw [q]; exact c5.2.2.2
      · exact absurd (q ▸ c5) ha
    · exact (c3 a q).2.2.2
  · by_cases q : a = e'
    · rcases c5 with c5 | c5
      · exact absurd (by rw [q, c5.1]; exact h0.2.2.2.2.2.2.2) hb
      · exact absurd (q ▸ c5) ha
    · exact ⟨(c3 a q).1, (c3 a q).2.1, (c3 a q).2.2.1⟩
end
