/-! the reference's next lot: the least of those behind -/
section
variable {B k : Nat} {S : Ss} {w : MS}
theorem Rel.nextLp (h : Rel B k S w) {i : Nat} (hi : i < 6) (a : Option Nat) (ha : ∀ q, a = some q → q < zN S 5) : ∀ d s, s + d = zN S 5 → ∀ f (o : Option Nat), d < f → nxI S i a s o → ∃ o', g_X12_nextLot_5 f (nI i) (fcI a) (fcI o) (nI s) w = some (fcI o', w) ∧ nxI S i a (zN S 5) o'
  | 0, s, hsd, f, o, hf, hI => by
    obtain ⟨f, rfl⟩ : ∃ f', f = f' + 1 := ⟨f - 1, by omega⟩
    have e : s = zN S 5 := by omega
    subst e
    exact ⟨o, by simp only [g_X12_nextLot_5, kif, r_gb, gbn_s, r_grd, r_gbo, r_gret, r_gst, k_isIn, k_isSlot, k_isItem, k_isGroup, k_isRobot, k_are, k_holds0, k_holds1, k_holds2, k_holds3, k_bit, k_less, bI_t, bI_f, i10, i00, i01, i11, i20, i30, ↓reduceIte, h.lo.2.2.1, Int32.le_refl], hI⟩
  | d + 1, s, hsd, f, o, hf, hI => by
    obtain ⟨f, rfl⟩ : ∃ f', f = f' + 1 := ⟨f - 1, by omega⟩
    have hs : s < zN S 5 := by omega
    have ho : ∀ q, o = some q → q < zN S 5 := fun q e => by have := (hI.2 q e).1; omega
    obtain ⟨p1, p2⟩ := h.nextS hi a o ha ho hs f
    by_cases q : cdt S i a s
    · obtain ⟨p3, p4⟩ := p2 q
      have take : (∀ l, l < s → cdt S i a l → ltE (zA S 502) s l) → nxI S i a (s + 1) (some s) := fun r => by
        refine ⟨fun e => (by cases e), fun b e => ?_⟩
        have : s = b := Option.some.inj e
        subst this
        refine ⟨by omega, q, fun l hl hc => ?_⟩
        by_cases e2 : l = s
        · exact Or.inl e2
        · exact Or.inr (r l (by omega) hc)
      cases ho2 : o with
      | none =>
        rw [← ho2, p3 ho2]
        exact h.nextLp hi a ha d (s + 1) (by omega) f (some s) (by omega) (take fun l hl hc => absurd hc (hI.1 ho2 l hl))
      | some b =>
        rw [← ho2, p4 b ho2]
        obtain ⟨b1, b2, b3⟩ := hI.2 b ho2
        by_cases q2 : zA S 502 b ≤ zA S 502 s
        · rw [if_pos q2]
          have q3 := Int32.le_iff_toInt_le.mp q2
          refine h.nextLp hi a ha d (s + 1) (by omega) f (some b) (by omega) ⟨fun e => (by cases e), fun b' e => ?_⟩
          have : b = b' := Option.some.inj e
          subst this
          refine ⟨by omega, b2, fun l hl hc => ?_⟩
          by_cases e2 : l = s
          · subst e2
            exact Or.inr (ltE_i.mpr (by omega))
          · exact b3 l (by omega) hc
        · rw [if_neg q2]
          have q3 := mt Int32.le_iff_toInt_le.mpr q2
          refine h.nextLp hi a ha d (s + 1) (by omega) f (some s) (by omega) (take fun l hl hc => ltE_i.mpr ?_)
          rcases b3 l hl hc with e | e
          · subst e; omega
          · have := ltE_i.mp e; omega
    · rw [p1 q]
      refine h.nextLp hi a ha d (s + 1) (by omega) f o (by omega) ⟨fun e l hl hc => ?_, fun b e => ?_⟩
      · by_cases e2 : l = s
        · subst e2; exact q hc
        · exact hI.1 e l (by omega) hc
      · obtain ⟨b1, b2, b3⟩ := hI.2 b e
        refine ⟨by omega, b2, fun l hl hc => ?_⟩
        by_cases e2 : l = s
        · subst e2; exact absurd hc q
        · exact b3 l (by omega) hc
theorem Rel.kNext (h : Rel B k S w) {i : Nat} (hi : i < 6) (a : Option Nat) (ha : ∀ q, a = some q → q < zN S 5) : ∃ o, g_X12_nextLot (nI i) (fcI a) w = some (fcI o, w) ∧ nxI S i a (zN S 5) o := by
  have h12 := h.lo.1
  obtain ⟨o, o1, o2⟩ := h.nextLp hi a ha (zN S 5) 0 (by omega) FU none (FU_gt (by omega)) ⟨fun _ l hl => absurd hl (by omega), fun b e => (by cases e)⟩
  refine ⟨o, ?_, o2⟩
  have z : fcI none = (-1 : Int32) := rfl
  have z0 : nI 0 = (0 : Int32) := rfl
  rw [z, z0] at o1
  unfold g_X12_nextLot
  exact o1
/-- the class's list of lots: those that count, in the reference's order -/
def byE (S : Ss) (i : Nat) : List Nat := (zL S 1104 0).filter fun l => decide (itS S l = i ∧ zA S 503 l = 0)
theorem Rel.byE_m (h : Rel B k S w) {i l : Nat} : l ∈ byE S i ↔ l < zN S 5 ∧ itS S l = i ∧ zA S 503 l = 0 := by
  unfold byE
  rw [List.mem_filter, h.be.1.mem_iff, List.mem_range, decide_eq_true_iff]
theorem ltE_ir {e : Nat → Int32} (a : Nat) : ¬ ltE e a a := fun r => by have := ltE_i.mp r; omega
theorem Rel.byE_s (h : Rel B k S w) (i : Nat) : (byE S i).Pairwise (ltE (zA S 502)) := List.Pairwise.filter _ h.be.2
/-- the next of those behind k of them -/
theorem Rel.kNextE (h : Rel B k S w) {i n : Nat} (hi : i < 6) (a : Option Nat) (ha : match n with | 0 => a = none | q + 1 => a = (byE S i)[q]? ∧ q < (byE S i).length) : g_X12_nextLot (nI i) (fcI a) w = some (fcI (byE S i)[n]?, w) := by
  have srt := List.pairwise_iff_getElem.mp (h.byE_s i)
  have ha2 : ∀ q, a = some q → q < zN S 5 := fun q e => by
    cases n with
    | zero => have : a = none := ha; rw [this] at e; cases e
    | succ n =>
      have : a = (byE S i)[n]? := ha.1
      rw [this] at e
      exact (h.byE_m.mp (List.mem_of_getElem? e)).1
  have key : ∀ j l, (byE S i)[j]? = some l → (cdt S i a l ↔ n ≤ j) := fun j l hj => by
    obtain ⟨j1, j2⟩ := List.getElem?_eq_some_iff.mp hj
    obtain ⟨m1, m2, m3⟩ := h.byE_m.mp (List.mem_of_getElem? hj)
    cases n with
    | zero =>
      have : a = none := ha
      subst this
      exact ⟨fun _ => Nat.zero_le _, fun _ => ⟨m2, m3, fun q e => (by cases e)⟩⟩
    | succ n =>
      obtain ⟨a1, a2⟩ : a = (byE S i)[n]? ∧ n < (byE S i).length := ha
      rw [List.getElem?_eq_getElem a2] at a1
      constructor
      · rintro ⟨-, -, r⟩
        have r2 := r _ a1
        refine Classical.byContradiction fun c => ?_
        by_cases e : j = n
        · subst e; rw [j2] at r2; exact ltE_ir _ r2
        · have r3 := srt j n j1 a2 (by omega)
          rw [j2] at r3
          have := ltE_i.mp r2
          have := ltE_i.mp r3
          omega
      · intro r
        refine ⟨m2, m3, fun q e => ?_⟩
        rw [a1] at e
        have : (byE S i)[n] = q := Option.some.inj e
        subst this
        have r3 := srt n j a2 j1 (by omega)
        rw [j2] at r3
        exact r3
  obtain ⟨o, o1, o2, o3⟩ := h.kNext hi a ha2
  rw [o1]
  congr 2
  cases hn : (byE S i)[n]? with
  | none =>
    cases ho : o with
    | none => rfl
    | some b =>
      obtain ⟨b1, b2, -⟩ := o3 b ho
      have hb : b ∈ byE S i := h.byE_m.mpr ⟨b1, b2.1, b2.2.1⟩
      obtain ⟨j, hj, hjb⟩ := List.mem_iff_getElem.mp hb
      have := (key j b (List.getElem?_eq_some_iff.mpr ⟨hj, hjb⟩)).mp b2
      have := List.getElem?_eq_none_iff.mp hn
      omega
  | some l =>
    have hl := h.byE_m.mp (List.mem_of_getElem? hn)
    have hc := (key n l hn).mpr (Nat.le_refl _)
    cases ho : o with
    | none => exact absurd hc (o2 ho l hl.1)
    | some b =>
      obtain ⟨b1, b2, b3⟩ := o3 b ho
      rcases b3 l hl.1 hc with e | e
      · rw [e]
      · have hb : b ∈ byE S i := h.byE_m.mpr ⟨b1, b2.1, b2.2.1⟩
        obtain ⟨j, hj, hjb⟩ := List.mem_iff_getElem.mp hb
        have h1 := (key j b (List.getElem?_eq_some_iff.mpr ⟨hj, hjb⟩)).mp b2
        obtain ⟨n1, n2⟩ := List.getElem?_eq_some_iff.mp hn
        by_cases e2 : j = n
        · subst e2; rw [← hjb, ← n2]
        · have r3 := srt n j n1 hj (by omega)
          rw [n2, hjb] at r3
          have := ltE_i.mp e
          have := ltE_i.mp r3
          omega
end
