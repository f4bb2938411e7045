/-! what is there stays: orders, lines and lots are made behind the others -/
def EX (S T : Ss) (w v : MS) : Prop := hL T = hL S ∧ zN T 10 = zN S 10 ∧ zN S 2 ≤ zN T 2 ∧ zN S 5 ≤ zN T 5 ∧ zN S 7 ≤ zN T 7 ∧ (∀ f i, f / 100 = 2 ∨ f / 100 = 10 → zA T f i = zA S f i ∧ zO T f i = zO S f i) ∧ zL T 1108 0 = zL S 1108 0 ∧ (∀ o, o < zN S 7 → zA T 705 o = zA S 705 o ∧ ∃ ys, zL T 704 o = zL S 704 o ++ ys) ∧ mI v 39 = mI w 39 ∧ mI v 45 = mI w 45 ∧ ∀ k, 40 ≤ k → k ≤ 54 → mA v k = mA w k
section
variable {S T : Ss} {w v : MS}
theorem EX.mem (e : EX S T w v) {o j : Nat} (ho : o < zN S 7) (hj : j ∈ zL S 704 o) : j ∈ zL T 704 o ∧ lqS T o j = lqS S o j := by
  obtain ⟨ys, q⟩ := (e.2.2.2.2.2.2.2.1 o ho).2
  unfold lqS
  rw [q]
  refine ⟨List.mem_append_left _ hj, ?_⟩
  rw [List.idxOf_append, if_pos hj]
theorem EX.ho (e : EX S T w v) (h : g_ho S w) : g_ho T v := by
  obtain ⟨e1, e2, e3, e4, e5, e6, e7, e8, -⟩ := id e
  obtain ⟨a1, a2, a3⟩ := h
  have z : ∀ f x, f / 100 = 2 ∨ f / 100 = 10 → zA T f x = zA S f x := fun f x q => (e6 f x q).1
  have y : ∀ f x, f / 100 = 2 ∨ f / 100 = 10 → zO T f x = zO S f x := fun f x q => (e6 f x q).2
  unfold g_ho hasO
  rw [e1]
  refine ⟨a1, fun x hx => ?_, ?_⟩
  · obtain ⟨b1, b2, ⟨l, b3, b4⟩, b5, b6, b7⟩ := a2 x hx
    rw [z 204 x (by decide), y 203 x (by decide), z 202 x (by decide), y 200 x (by decide), y 201 x (by decide), y 205 x (by decide)]
    refine ⟨by omega, b2, ⟨l, by omega, b4⟩, b5, ?_, fun t ht => ?_⟩
    · rcases b6 with b6 | ⟨o, j, p, c1, c2, c3, c4, c5, c6⟩
      · exact Or.inl b6
      · exact Or.inr ⟨o, j, p, c1, c2, by omega, (e.mem c3 c4).1, by rw [(e8 o c3).1]; exact c5, c6⟩
    · obtain ⟨d1, d2, d3, d4⟩ := b7 t ht
      rw [e2, y 1002 t (by decide), z 1005 t (by decide), z 1004 t (by decide)]
      exact ⟨d1, d2, d3, d4⟩
  · have : (fun a b => (zO T 205 a).getD 0 < (zO T 205 b).getD 0) = (fun a b => (zO S 205 a).getD 0 < (zO S 205 b).getD 0) := by
      funext a b; rw [y 205 a (by decide), y 205 b (by decide)]
    rw [this]
    have : (fun x => !(zO T 200 x).isSome) = (fun x => !hasO S x) := by
      funext a; rw [y 200 a (by decide)]; rfl
    rw [this]; exact a3
theorem EX.fil (e : EX S T w v) : (hL T).filter (hasO T) = (hL S).filter (hasO S) := by
  rw [e.1]
  congr 1
  funext a
  unfold hasO
  rw [(e.2.2.2.2.2.1 200 a (by decide)).2]
theorem EX.hm (e : EX S T w v) (h0 : g_ho S w) (h : g_hm S w) : g_hm T v := by
  obtain ⟨e1, e2, e3, e4, e5, e6, e7, e8, e9, e10, e11⟩ := id e
  obtain ⟨a1, a2⟩ := h
  unfold g_hm
  rw [e.fil, e9]
  refine ⟨a1, fun i x hx => ?_⟩
  obtain ⟨o, j, l, b1, b2, b3, b4, b5, b6, b7, b8⟩ := a2 i x hx
  have hx2 := List.mem_filter.mp (List.mem_of_getElem? hx)
  obtain ⟨-, -, -, -, c5, -⟩ := h0.2.1 x hx2.1
  rcases c5 with ⟨c5, -⟩ | ⟨o2, j2, p, c1, c2, c3, c4, -⟩
  · rw [c5] at b1; cases b1
  · have ho2 : o2 = o := Option.some.inj (c1.symm.trans b1)
    have hj2 : j2 = j := Option.some.inj (c2.symm.trans b2)
    subst ho2; subst hj2
    rw [(e6 200 x (by decide)).2, (e6 201 x (by decide)).2, (e6 203 x (by decide)).2, (e6 202 x (by decide)).1, (e6 204 x (by decide)).1, (e6 205 x (by decide)).2, e11 40 (by decide) (by decide), e11 41 (by decide) (by decide), e11 42 (by decide) (by decide), e11 43 (by decide) (by decide), e11 44 (by decide) (by decide)]
    exact ⟨o2, j2, l, b1, b2, b3, by rw [(e.mem c3 c4).2]; exact b4, b5, b6, b7, b8⟩
theorem EX.ta (e : EX S T w v) (h : g_ta S w) : g_ta T v := by
  obtain ⟨e1, e2, e3, e4, e5, e6, e7, e8, e9, e10, e11⟩ := id e
  obtain ⟨a1, a2, a3, a4⟩ := h
  unfold g_ta
  rw [e2, e7, e10]
  refine ⟨a1, a2, a3, fun t ht => ?_⟩
  obtain ⟨b1, b2, b3, b4, b5, b6, b7, x, l, c1, c2, c3, c4, c5, c6, c7, c8⟩ := a4 t ht
  have z : ∀ f x, f / 100 = 2 ∨ f / 100 = 10 → zA T f x = zA S f x := fun f x q => (e6 f x q).1
  have y : ∀ f x, f / 100 = 2 ∨ f / 100 = 10 → zO T f x = zO S f x := fun f x q => (e6 f x q).2
  have on : onT T t ↔ onT S t := by unfold onT; rw [z 1005 t (by decide)]
  rw [z 1000 t (by decide), z 1001 t (by decide), z 1003 t (by decide), z 1004 t (by decide), z 1005 t (by decide), y 1002 t (by decide), e11 46 (by decide) (by decide), e11 49 (by decide) (by decide), e11 51 (by decide) (by decide), e11 52 (by decide) (by decide), e11 47 (by decide) (by decide), e11 48 (by decide) (by decide), e11 50 (by decide) (by decide), e11 54 (by decide) (by decide), on, e1, z 1006 t (by decide)]
  refine ⟨b1, b2, b3, b4, b5, b6, b7, x, l, c1, by omega, by rw [y 203 x (by decide)]; exact c3, by omega, c5, by rw [z 202 x (by decide)]; exact c6, by rw [y 205 x (by decide)]; exact c7, ?_⟩
  rw [y 200 x (by decide), y 201 x (by decide), z 202 x (by decide)]
  rcases c8 with c8 | c8 | ⟨d1, d2, d3, o, j, d4, d5, d6, d7, d8, d9⟩
  · exact Or.inl c8
  · exact Or.inr (Or.inl c8)
  · exact Or.inr (Or.inr ⟨d1, d2, d3, o, j, d4, d5, by omega, (e.mem d6 d7).1, by rw [(e.mem d6 d7).2]; exact d8, d9⟩)
end
